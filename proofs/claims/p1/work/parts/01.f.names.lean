theorem dX13_type_86 : decode cX13_type 86 = .ok (.ldc2_w 216, 3) := by decide +kernel
theorem dX13_type_89 : decode cX13_type 89 = .ok (.land, 1) := by decide +kernel
theorem dX13_type_90 : decode cX13_type 90 = .ok (.l2i, 1) := by decide +kernel
theorem dX13_type_91 : decode cX13_type 91 = .ok (.istore 5, 2) := by decide +kernel
theorem dX13_type_93 : decode cX13_type 93 = .ok (.iload 5, 2) := by decide +kernel
theorem dX13_type_95 : decode cX13_type 95 = .ok (.ifCond .eq 24, 3) := by decide +kernel
theorem dX13_type_98 : decode cX13_type 98 = .ok (.aload_n 0, 1) := by decide +kernel
theorem dX13_type_99 : decode cX13_type 99 = .ok (.getfield 38, 3) := by decide +kernel
theorem dX13_type_102 : decode cX13_type 102 = .ok (.aload_n 0, 1) := by decide +kernel
theorem dX13_type_103 : decode cX13_type 103 = .ok (.getfield 218, 3) := by decide +kernel
theorem dX13_type_106 : decode cX13_type 106 = .ok (.iload 5, 2) := by decide +kernel
theorem dX13_type_108 : decode cX13_type 108 = .ok (.iastore, 1) := by decide +kernel
theorem dX13_type_109 : decode cX13_type 109 = .ok (.aload_n 0, 1) := by decide +kernel
theorem dX13_type_110 : decode cX13_type 110 = .ok (.dup, 1) := by decide +kernel
theorem dX13_type_111 : decode cX13_type 111 = .ok (.getfield 218, 3) := by decide +kernel
theorem dX13_type_114 : decode cX13_type 114 = .ok (.iconst 1, 1) := by decide +kernel
theorem dX13_type_115 : decode cX13_type 115 = .ok (.iadd, 1) := by decide +kernel
theorem dX13_type_116 : decode cX13_type 116 = .ok (.putfield 218, 3) := by decide +kernel
theorem dX13_type_119 : decode cX13_type 119 = .ok (.iinc 4 (-1), 3) := by decide +kernel
theorem dX13_type_122 : decode cX13_type 122 = .ok (.goto (-48), 3) := by decide +kernel
theorem dX13_type_125 : decode cX13_type 125 = .ok (.aload_n 0, 1) := by decide +kernel
theorem dX13_type_126 : decode cX13_type 126 = .ok (.getfield 218, 3) := by decide +kernel
theorem dX13_type_129 : decode cX13_type 129 = .ok (.ireturn, 1) := by decide +kernel
theorem dX13_clearText_0 : decode cX13_clearText 0 = .ok (.aload_n 0, 1) := by decide +kernel
theorem dX13_clearText_1 : decode cX13_clearText 1 = .ok (.iconst 0, 1) := by decide +kernel
theorem dX13_clearText_2 : decode cX13_clearText 2 = .ok (.putfield 1, 3) := by decide +kernel
theorem dX13_clearText_5 : decode cX13_clearText 5 = .ok (.aload_n 0, 1) := by decide +kernel
theorem dX13_clearText_6 : decode cX13_clearText 6 = .ok (.getfield 218, 3) := by decide +kernel
theorem dX13_clearText_9 : decode cX13_clearText 9 = .ok (.istore_n 1, 1) := by decide +kernel
theorem dX13_clearText_10 : decode cX13_clearText 10 = .ok (.aload_n 0, 1) := by decide +kernel
theorem dX13_clearText_11 : decode cX13_clearText 11 = .ok (.iconst 0, 1) := by decide +kernel
theorem dX13_clearText_12 : decode cX13_clearText 12 = .ok (.putfield 218, 3) := by decide +kernel
theorem dX13_clearText_15 : decode cX13_clearText 15 = .ok (.iload_n 1, 1) := by decide +kernel
theorem dX13_clearText_16 : decode cX13_clearText 16 = .ok (.ireturn, 1) := by decide +kernel
theorem dX13_textLength_0 : decode cX13_textLength 0 = .ok (.aload_n 0, 1) := by decide +kernel
theorem dX13_textLength_1 : decode cX13_textLength 1 = .ok (.iconst 0, 1) := by decide +kernel
theorem dX13_textLength_2 : decode cX13_textLength 2 = .ok (.putfield 1, 3) := by decide +kernel
theorem dX13_textLength_5 : decode cX13_textLength 5 = .ok (.aload_n 0, 1) := by decide +kernel
theorem dX13_textLength_6 : decode cX13_textLength 6 = .ok (.getfield 218, 3) := by decide +kernel
theorem dX13_textLength_9 : decode cX13_textLength 9 = .ok (.ireturn, 1) := by decide +kernel
set_option maxRecDepth 20000 in
theorem ggX13_example_X13_in : GoodIn wsX13_example wsX13_in := goodIn_r _ [6] (by decide +kernel) (by decide +kernel)
set_option maxRecDepth 20000 in
theorem gX13_example_X13_in : GoodIn wsX13_example (va_wsS RX13 7 yX13_in wsX13_in) := goodIn_app (goodIn_of _ (by decide +kernel)) ggX13_example_X13_in
set_option maxRecDepth 20000 in
theorem ggX13_example_X13_passes : GoodIn wsX13_example wsX13_passes := goodIn_r _ [10, 11, 61, 62, 63, 64, 65, 66, 67, 68, 69, 70, 71, 72, 73, 74] (by decide +kernel) (by decide +kernel)
set_option maxRecDepth 20000 in
theorem gX13_example_X13_passes : GoodIn wsX13_example (wsV RX13 55 RX13 yX13_passes wsX13_passes) := goodIn_app (goodIn_of _ (by decide +kernel)) ggX13_example_X13_passes
set_option maxRecDepth 20000 in
theorem ggX13_example_J0_length_8abf5 : GoodIn wsX13_example wsJ0_length_8abf5 := goodIn_r _ [16, 17, 18, 19, 20, 15, 21, 22, 23] (by decide +kernel) (by decide +kernel)
set_option maxRecDepth 20000 in
theorem gX13_example_J0_length_8abf5 : GoodIn wsX13_example (wsV RX13 227 RJ0 yJ0_length_8abf5 wsJ0_length_8abf5) := goodIn_app (goodIn_of _ (by decide +kernel)) ggX13_example_J0_length_8abf5
set_option maxRecDepth 20000 in
theorem ggX13_example_J0_charAt_5068e : GoodIn wsX13_example wsJ0_charAt_5068e := goodIn_r _ [27, 17, 28, 29, 30, 15, 31, 22, 23, 32, 33, 34, 35, 36, 37, 38, 39, 40, 41, 42, 43, 44, 45, 46, 47, 48, 49, 50, 51, 52, 53, 54, 55, 56, 57, 58, 59, 60] (by decide +kernel) (by decide +kernel)
set_option maxRecDepth 20000 in
theorem gX13_example_J0_charAt_5068e : GoodIn wsX13_example (wsV RX13 232 RJ0 yJ0_charAt_5068e wsJ0_charAt_5068e) := goodIn_app (goodIn_of _ (by decide +kernel)) ggX13_example_J0_charAt_5068e
theorem dX13_example_0 : decode cX13_example 0 = .ok (.aload_n 0, 1) := by decide +kernel
theorem dX13_example_1 : decode cX13_example 1 = .ok (.iload_n 1, 1) := by decide +kernel
theorem dX13_example_2 : decode cX13_example 2 = .ok (.iconst 0, 1) := by decide +kernel
theorem dX13_example_3 : decode cX13_example 3 = .ok (.iconst 2, 1) := by decide +kernel
theorem dX13_example_4 : decode cX13_example 4 = .ok (.invokestatic 7, 3) := by decide +kernel
theorem dX13_example_7 : decode cX13_example 7 = .ok (.iconst 1, 1) := by decide +kernel
theorem dX13_example_8 : decode cX13_example 8 = .ok (.iconst 1, 1) := by decide +kernel
theorem dX13_example_9 : decode cX13_example 9 = .ok (.invokevirtual 55, 3) := by decide +kernel
theorem dX13_example_12 : decode cX13_example 12 = .ok (.ifCond .ne 5, 3) := by decide +kernel
theorem dX13_example_15 : decode cX13_example 15 = .ok (.iconst 0, 1) := by decide +kernel
theorem dX13_example_16 : decode cX13_example 16 = .ok (.ireturn, 1) := by decide +kernel
theorem dX13_example_17 : decode cX13_example 17 = .ok (.iload_n 1, 1) := by decide +kernel
theorem dX13_example_18 : decode cX13_example 18 = .ok (.ifCond .ne 8, 3) := by decide +kernel
theorem dX13_example_21 : decode cX13_example 21 = .ok (.ldc 221, 2) := by decide +kernel
theorem dX13_example_23 : decode cX13_example 23 = .ok (.goto 15, 3) := by decide +kernel
theorem dX13_example_26 : decode cX13_example 26 = .ok (.iload_n 1, 1) := by decide +kernel
theorem dX13_example_27 : decode cX13_example 27 = .ok (.iconst 1, 1) := by decide +kernel
theorem dX13_example_28 : decode cX13_example 28 = .ok (.if_icmp .ne 8, 3) := by decide +kernel
theorem dX13_example_31 : decode cX13_example 31 = .ok (.ldc 223, 2) := by decide +kernel
theorem dX13_example_33 : decode cX13_example 33 = .ok (.goto 5, 3) := by decide +kernel
theorem dX13_example_36 : decode cX13_example 36 = .ok (.ldc 225, 2) := by decide +kernel
theorem dX13_example_38 : decode cX13_example 38 = .ok (.astore_n 2, 1) := by decide +kernel
theorem dX13_example_39 : decode cX13_example 39 = .ok (.iconst 0, 1) := by decide +kernel
theorem dX13_example_40 : decode cX13_example 40 = .ok (.istore_n 3, 1) := by decide +kernel
theorem dX13_example_41 : decode cX13_example 41 = .ok (.iload_n 3, 1) := by decide +kernel
theorem dX13_example_42 : decode cX13_example 42 = .ok (.aload_n 2, 1) := by decide +kernel
theorem dX13_example_43 : decode cX13_example 43 = .ok (.invokevirtual 227, 3) := by decide +kernel
theorem dX13_example_46 : decode cX13_example 46 = .ok (.if_icmp .ge 20, 3) := by decide +kernel
theorem dX13_example_49 : decode cX13_example 49 = .ok (.aload_n 0, 1) := by decide +kernel
theorem dX13_example_50 : decode cX13_example 50 = .ok (.getfield 38, 3) := by decide +kernel
theorem dX13_example_53 : decode cX13_example 53 = .ok (.iload_n 3, 1) := by decide +kernel
theorem dX13_example_54 : decode cX13_example 54 = .ok (.aload_n 2, 1) := by decide +kernel
theorem dX13_example_55 : decode cX13_example 55 = .ok (.iload_n 3, 1) := by decide +kernel
theorem dX13_example_56 : decode cX13_example 56 = .ok (.invokevirtual 232, 3) := by decide +kernel
theorem dX13_example_59 : decode cX13_example 59 = .ok (.iastore, 1) := by decide +kernel
theorem dX13_example_60 : decode cX13_example 60 = .ok (.iinc 3 1, 3) := by decide +kernel
theorem dX13_example_63 : decode cX13_example 63 = .ok (.goto (-22), 3) := by decide +kernel
theorem dX13_example_66 : decode cX13_example 66 = .ok (.aload_n 0, 1) := by decide +kernel
theorem dX13_example_67 : decode cX13_example 67 = .ok (.aload_n 2, 1) := by decide +kernel
theorem dX13_example_68 : decode cX13_example 68 = .ok (.invokevirtual 227, 3) := by decide +kernel
theorem dX13_example_71 : decode cX13_example 71 = .ok (.putfield 218, 3) := by decide +kernel
theorem dX13_example_74 : decode cX13_example 74 = .ok (.aload_n 0, 1) := by decide +kernel
theorem dX13_example_75 : decode cX13_example 75 = .ok (.getfield 218, 3) := by decide +kernel
theorem dX13_example_78 : decode cX13_example 78 = .ok (.ireturn, 1) := by decide +kernel
theorem dX13_fails_0 : decode cX13_fails 0 = .ok (.aload_n 0, 1) := by decide +kernel
theorem dX13_fails_1 : decode cX13_fails 1 = .ok (.getfield 236, 3) := by decide +kernel
theorem dX13_fails_4 : decode cX13_fails 4 = .ok (.ifCond .ne 13, 3) := by decide +kernel
theorem dX13_fails_7 : decode cX13_fails 7 = .ok (.aload_n 0, 1) := by decide +kernel
theorem dX13_fails_8 : decode cX13_fails 8 = .ok (.iload_n 1, 1) := by decide +kernel
theorem dX13_fails_9 : decode cX13_fails 9 = .ok (.putfield 236, 3) := by decide +kernel
theorem dX13_fails_12 : decode cX13_fails 12 = .ok (.aload_n 0, 1) := by decide +kernel
theorem dX13_fails_13 : decode cX13_fails 13 = .ok (.iload_n 2, 1) := by decide +kernel
theorem dX13_fails_14 : decode cX13_fails 14 = .ok (.putfield 239, 3) := by decide +kernel
theorem dX13_fails_17 : decode cX13_fails 17 = .ok (.return_, 1) := by decide +kernel
set_option maxRecDepth 20000 in
theorem ggX13_isLetter_X13_in : GoodIn wsX13_isLetter wsX13_in := goodIn_r _ [4] (by decide +kernel) (by decide +kernel)
set_option maxRecDepth 20000 in
theorem gX13_isLetter_X13_in : GoodIn wsX13_isLetter (va_wsS RX13 7 yX13_in wsX13_in) := goodIn_app (goodIn_of _ (by decide +kernel)) ggX13_isLetter_X13_in
theorem dX13_isLetter_0 : decode cX13_isLetter 0 = .ok (.iload_n 0, 1) := by decide +kernel
theorem dX13_isLetter_1 : decode cX13_isLetter 1 = .ok (.bipush 97, 2) := by decide +kernel
theorem dX13_isLetter_3 : decode cX13_isLetter 3 = .ok (.bipush 122, 2) := by decide +kernel
theorem dX13_isLetter_5 : decode cX13_isLetter 5 = .ok (.invokestatic 7, 3) := by decide +kernel
theorem dX13_isLetter_8 : decode cX13_isLetter 8 = .ok (.ireturn, 1) := by decide +kernel
set_option maxRecDepth 20000 in
theorem ggX13_isDigit_X13_in : GoodIn wsX13_isDigit wsX13_in := goodIn_r _ [4] (by decide +kernel) (by decide +kernel)
set_option maxRecDepth 20000 in
theorem gX13_isDigit_X13_in : GoodIn wsX13_isDigit (va_wsS RX13 7 yX13_in wsX13_in) := goodIn_app (goodIn_of _ (by decide +kernel)) ggX13_isDigit_X13_in
theorem dX13_isDigit_0 : decode cX13_isDigit 0 = .ok (.iload_n 0, 1) := by decide +kernel
theorem dX13_isDigit_1 : decode cX13_isDigit 1 = .ok (.bipush 48, 2) := by decide +kernel
theorem dX13_isDigit_3 : decode cX13_isDigit 3 = .ok (.bipush 57, 2) := by decide +kernel
theorem dX13_isDigit_5 : decode cX13_isDigit 5 = .ok (.invokestatic 7, 3) := by decide +kernel
theorem dX13_isDigit_8 : decode cX13_isDigit 8 = .ok (.ireturn, 1) := by decide +kernel
set_option maxRecDepth 20000 in
theorem ggX13_takes_X13_isLetter : GoodIn wsX13_takes wsX13_isLetter := goodIn_r _ [8, 9, 10, 7, 11] (by decide +kernel) (by decide +kernel)
set_option maxRecDepth 20000 in
theorem gX13_takes_X13_isLetter : GoodIn wsX13_takes (va_wsS RX13 248 yX13_isLetter wsX13_isLetter) := goodIn_app (goodIn_of _ (by decide +kernel)) ggX13_takes_X13_isLetter
set_option maxRecDepth 20000 in
theorem ggX13_takes_X13_isDigit : GoodIn wsX13_takes wsX13_isDigit := goodIn_r _ [14, 9, 10, 7, 11] (by decide +kernel) (by decide +kernel)
set_option maxRecDepth 20000 in
theorem gX13_takes_X13_isDigit : GoodIn wsX13_takes (va_wsS RX13 251 yX13_isDigit wsX13_isDigit) := goodIn_app (goodIn_of _ (by decide +kernel)) ggX13_takes_X13_isDigit
theorem dX13_takes_0 : decode cX13_takes 0 = .ok (.aload_n 0, 1) := by decide +kernel
theorem dX13_takes_1 : decode cX13_takes 1 = .ok (.aload_n 0, 1) := by decide +kernel
theorem dX13_takes_2 : decode cX13_takes 2 = .ok (.getfield 242, 3) := by decide +kernel
theorem dX13_takes_5 : decode cX13_takes 5 = .ok (.putfield 245, 3) := by decide +kernel
theorem dX13_takes_8 : decode cX13_takes 8 = .ok (.aload_n 0, 1) := by decide +kernel
theorem dX13_takes_9 : decode cX13_takes 9 = .ok (.getfield 245, 3) := by decide +kernel
theorem dX13_takes_12 : decode cX13_takes 12 = .ok (.aload_n 0, 1) := by decide +kernel
theorem dX13_takes_13 : decode cX13_takes 13 = .ok (.getfield 218, 3) := by decide +kernel
theorem dX13_takes_16 : decode cX13_takes 16 = .ok (.if_icmp .ge 30, 3) := by decide +kernel
theorem dX13_takes_19 : decode cX13_takes 19 = .ok (.aload_n 0, 1) := by decide +kernel
theorem dX13_takes_20 : decode cX13_takes 20 = .ok (.getfield 38, 3) := by decide +kernel
theorem dX13_takes_23 : decode cX13_takes 23 = .ok (.aload_n 0, 1) := by decide +kernel
theorem dX13_takes_24 : decode cX13_takes 24 = .ok (.getfield 245, 3) := by decide +kernel
theorem dX13_takes_27 : decode cX13_takes 27 = .ok (.iaload, 1) := by decide +kernel
theorem dX13_takes_28 : decode cX13_takes 28 = .ok (.bipush 32, 2) := by decide +kernel
theorem dX13_takes_30 : decode cX13_takes 30 = .ok (.if_icmp .ne 16, 3) := by decide +kernel
theorem dX13_takes_33 : decode cX13_takes 33 = .ok (.aload_n 0, 1) := by decide +kernel
theorem dX13_takes_34 : decode cX13_takes 34 = .ok (.dup, 1) := by decide +kernel
theorem dX13_takes_35 : decode cX13_takes 35 = .ok (.getfield 245, 3) := by decide +kernel
theorem dX13_takes_38 : decode cX13_takes 38 = .ok (.iconst 1, 1) := by decide +kernel
theorem dX13_takes_39 : decode cX13_takes 39 = .ok (.iadd, 1) := by decide +kernel
theorem dX13_takes_40 : decode cX13_takes 40 = .ok (.putfield 245, 3) := by decide +kernel
theorem dX13_takes_43 : decode cX13_takes 43 = .ok (.goto (-35), 3) := by decide +kernel
theorem dX13_takes_46 : decode cX13_takes 46 = .ok (.aload_n 0, 1) := by decide +kernel
theorem dX13_takes_47 : decode cX13_takes 47 = .ok (.aload_n 0, 1) := by decide +kernel
theorem dX13_takes_48 : decode cX13_takes 48 = .ok (.getfield 245, 3) := by decide +kernel
theorem dX13_takes_51 : decode cX13_takes 51 = .ok (.putfield 242, 3) := by decide +kernel
theorem dX13_takes_54 : decode cX13_takes 54 = .ok (.aload_n 0, 1) := by decide +kernel
theorem dX13_takes_55 : decode cX13_takes 55 = .ok (.getfield 245, 3) := by decide +kernel
theorem dX13_takes_58 : decode cX13_takes 58 = .ok (.aload_n 0, 1) := by decide +kernel
theorem dX13_takes_59 : decode cX13_takes 59 = .ok (.getfield 218, 3) := by decide +kernel
theorem dX13_takes_62 : decode cX13_takes 62 = .ok (.if_icmp .ge 110, 3) := by decide +kernel
theorem dX13_takes_65 : decode cX13_takes 65 = .ok (.aload_n 0, 1) := by decide +kernel
theorem dX13_takes_66 : decode cX13_takes 66 = .ok (.getfield 38, 3) := by decide +kernel
theorem dX13_takes_69 : decode cX13_takes 69 = .ok (.aload_n 0, 1) := by decide +kernel
theorem dX13_takes_70 : decode cX13_takes 70 = .ok (.getfield 245, 3) := by decide +kernel
theorem dX13_takes_73 : decode cX13_takes 73 = .ok (.iaload, 1) := by decide +kernel
theorem dX13_takes_74 : decode cX13_takes 74 = .ok (.invokestatic 248, 3) := by decide +kernel
theorem dX13_takes_77 : decode cX13_takes 77 = .ok (.ifCond .ne 18, 3) := by decide +kernel
theorem dX13_takes_80 : decode cX13_takes 80 = .ok (.aload_n 0, 1) := by decide +kernel
theorem dX13_takes_81 : decode cX13_takes 81 = .ok (.getfield 38, 3) := by decide +kernel
theorem dX13_takes_84 : decode cX13_takes 84 = .ok (.aload_n 0, 1) := by decide +kernel
theorem dX13_takes_85 : decode cX13_takes 85 = .ok (.getfield 245, 3) := by decide +kernel
theorem dX13_takes_88 : decode cX13_takes 88 = .ok (.iaload, 1) := by decide +kernel
theorem dX13_takes_89 : decode cX13_takes 89 = .ok (.invokestatic 251, 3) := by decide +kernel
theorem dX13_takes_92 : decode cX13_takes 92 = .ok (.ifCond .eq 80, 3) := by decide +kernel
theorem dX13_takes_95 : decode cX13_takes 95 = .ok (.aload_n 0, 1) := by decide +kernel
theorem dX13_takes_96 : decode cX13_takes 96 = .ok (.getfield 38, 3) := by decide +kernel
theorem dX13_takes_99 : decode cX13_takes 99 = .ok (.aload_n 0, 1) := by decide +kernel
theorem dX13_takes_100 : decode cX13_takes 100 = .ok (.getfield 245, 3) := by decide +kernel
theorem dX13_takes_103 : decode cX13_takes 103 = .ok (.iaload, 1) := by decide +kernel
theorem dX13_takes_104 : decode cX13_takes 104 = .ok (.invokestatic 248, 3) := by decide +kernel
theorem dX13_takes_107 : decode cX13_takes 107 = .ok (.istore_n 1, 1) := by decide +kernel
theorem dX13_takes_108 : decode cX13_takes 108 = .ok (.aload_n 0, 1) := by decide +kernel
theorem dX13_takes_109 : decode cX13_takes 109 = .ok (.getfield 242, 3) := by decide +kernel
theorem dX13_takes_112 : decode cX13_takes 112 = .ok (.aload_n 0, 1) := by decide +kernel
theorem dX13_takes_113 : decode cX13_takes 113 = .ok (.getfield 218, 3) := by decide +kernel
theorem dX13_takes_116 : decode cX13_takes 116 = .ok (.if_icmp .ge 53, 3) := by decide +kernel
theorem dX13_takes_119 : decode cX13_takes 119 = .ok (.iload_n 1, 1) := by decide +kernel
theorem dX13_takes_120 : decode cX13_takes 120 = .ok (.ifCond .eq 21, 3) := by decide +kernel
theorem dX13_takes_123 : decode cX13_takes 123 = .ok (.aload_n 0, 1) := by decide +kernel
theorem dX13_takes_124 : decode cX13_takes 124 = .ok (.getfield 38, 3) := by decide +kernel
theorem dX13_takes_127 : decode cX13_takes 127 = .ok (.aload_n 0, 1) := by decide +kernel
theorem dX13_takes_128 : decode cX13_takes 128 = .ok (.getfield 242, 3) := by decide +kernel
theorem dX13_takes_131 : decode cX13_takes 131 = .ok (.iaload, 1) := by decide +kernel
theorem dX13_takes_132 : decode cX13_takes 132 = .ok (.invokestatic 248, 3) := by decide +kernel
theorem dX13_takes_135 : decode cX13_takes 135 = .ok (.ifCond .eq 34, 3) := by decide +kernel
theorem dX13_takes_138 : decode cX13_takes 138 = .ok (.goto 18, 3) := by decide +kernel
theorem dX13_takes_141 : decode cX13_takes 141 = .ok (.aload_n 0, 1) := by decide +kernel
theorem dX13_takes_142 : decode cX13_takes 142 = .ok (.getfield 38, 3) := by decide +kernel
theorem dX13_takes_145 : decode cX13_takes 145 = .ok (.aload_n 0, 1) := by decide +kernel
theorem dX13_takes_146 : decode cX13_takes 146 = .ok (.getfield 242, 3) := by decide +kernel
theorem dX13_takes_149 : decode cX13_takes 149 = .ok (.iaload, 1) := by decide +kernel
theorem dX13_takes_150 : decode cX13_takes 150 = .ok (.invokestatic 251, 3) := by decide +kernel
theorem dX13_takes_153 : decode cX13_takes 153 = .ok (.ifCond .eq 16, 3) := by decide +kernel
theorem dX13_takes_156 : decode cX13_takes 156 = .ok (.aload_n 0, 1) := by decide +kernel
theorem dX13_takes_157 : decode cX13_takes 157 = .ok (.dup, 1) := by decide +kernel
theorem dX13_takes_158 : decode cX13_takes 158 = .ok (.getfield 242, 3) := by decide +kernel
theorem dX13_takes_161 : decode cX13_takes 161 = .ok (.iconst 1, 1) := by decide +kernel
theorem dX13_takes_162 : decode cX13_takes 162 = .ok (.iadd, 1) := by decide +kernel
theorem dX13_takes_163 : decode cX13_takes 163 = .ok (.putfield 242, 3) := by decide +kernel
theorem dX13_takes_166 : decode cX13_takes 166 = .ok (.goto (-58), 3) := by decide +kernel
theorem dX13_takes_169 : decode cX13_takes 169 = .ok (.goto 24, 3) := by decide +kernel
theorem dX13_takes_172 : decode cX13_takes 172 = .ok (.aload_n 0, 1) := by decide +kernel
theorem dX13_takes_173 : decode cX13_takes 173 = .ok (.getfield 245, 3) := by decide +kernel
theorem dX13_takes_176 : decode cX13_takes 176 = .ok (.aload_n 0, 1) := by decide +kernel
theorem dX13_takes_177 : decode cX13_takes 177 = .ok (.getfield 218, 3) := by decide +kernel
theorem dX13_takes_180 : decode cX13_takes 180 = .ok (.if_icmp .ge 13, 3) := by decide +kernel
theorem dX13_takes_183 : decode cX13_takes 183 = .ok (.aload_n 0, 1) := by decide +kernel
theorem dX13_takes_184 : decode cX13_takes 184 = .ok (.dup, 1) := by decide +kernel
theorem dX13_takes_185 : decode cX13_takes 185 = .ok (.getfield 242, 3) := by decide +kernel
theorem dX13_takes_188 : decode cX13_takes 188 = .ok (.iconst 1, 1) := by decide +kernel
theorem dX13_takes_189 : decode cX13_takes 189 = .ok (.iadd, 1) := by decide +kernel
theorem dX13_takes_190 : decode cX13_takes 190 = .ok (.putfield 242, 3) := by decide +kernel
theorem dX13_takes_193 : decode cX13_takes 193 = .ok (.return_, 1) := by decide +kernel
set_option maxRecDepth 20000 in
theorem ggX13_is_J0_length_8abf5 : GoodIn wsX13_is wsJ0_length_8abf5 := goodIn_r _ [8, 9, 10, 11, 12, 7, 13, 14, 15] (by decide +kernel) (by decide +kernel)
set_option maxRecDepth 20000 in
theorem gX13_is_J0_length_8abf5 : GoodIn wsX13_is (wsV RX13 227 RJ0 yJ0_length_8abf5 wsJ0_length_8abf5) := goodIn_app (goodIn_of _ (by decide +kernel)) ggX13_is_J0_length_8abf5
set_option maxRecDepth 20000 in
theorem ggX13_is_J0_charAt_5068e : GoodIn wsX13_is wsJ0_charAt_5068e := goodIn_r _ [19, 9, 20, 21, 22, 7, 23, 14, 15, 24, 25, 26, 27, 28, 29, 30, 31, 32, 33, 34, 35, 36, 37, 38, 39, 40, 41, 42, 43, 44, 45, 46, 47, 48, 49, 50, 51, 52] (by decide +kernel) (by decide +kernel)
set_option maxRecDepth 20000 in
theorem gX13_is_J0_charAt_5068e : GoodIn wsX13_is (wsV RX13 232 RJ0 yJ0_charAt_5068e wsJ0_charAt_5068e) := goodIn_app (goodIn_of _ (by decide +kernel)) ggX13_is_J0_charAt_5068e
theorem dX13_is_0 : decode cX13_is 0 = .ok (.aload_n 0, 1) := by decide +kernel
theorem dX13_is_1 : decode cX13_is 1 = .ok (.getfield 242, 3) := by decide +kernel
theorem dX13_is_4 : decode cX13_is 4 = .ok (.aload_n 0, 1) := by decide +kernel
theorem dX13_is_5 : decode cX13_is 5 = .ok (.getfield 245, 3) := by decide +kernel
theorem dX13_is_8 : decode cX13_is 8 = .ok (.isub, 1) := by decide +kernel
theorem dX13_is_9 : decode cX13_is 9 = .ok (.aload_n 1, 1) := by decide +kernel
theorem dX13_is_10 : decode cX13_is 10 = .ok (.invokevirtual 227, 3) := by decide +kernel
theorem dX13_is_13 : decode cX13_is 13 = .ok (.if_icmp .ne 7, 3) := by decide +kernel
theorem dX13_is_16 : decode cX13_is 16 = .ok (.iconst 1, 1) := by decide +kernel
theorem dX13_is_17 : decode cX13_is 17 = .ok (.goto 4, 3) := by decide +kernel
theorem dX13_is_20 : decode cX13_is 20 = .ok (.iconst 0, 1) := by decide +kernel
theorem dX13_is_21 : decode cX13_is 21 = .ok (.istore_n 2, 1) := by decide +kernel
theorem dX13_is_22 : decode cX13_is 22 = .ok (.iconst 0, 1) := by decide +kernel
theorem dX13_is_23 : decode cX13_is 23 = .ok (.istore_n 3, 1) := by decide +kernel
theorem dX13_is_24 : decode cX13_is 24 = .ok (.iload_n 3, 1) := by decide +kernel
theorem dX13_is_25 : decode cX13_is 25 = .ok (.aload_n 1, 1) := by decide +kernel
theorem dX13_is_26 : decode cX13_is 26 = .ok (.invokevirtual 227, 3) := by decide +kernel
theorem dX13_is_29 : decode cX13_is 29 = .ok (.if_icmp .ge 38, 3) := by decide +kernel
theorem dX13_is_32 : decode cX13_is 32 = .ok (.iload_n 2, 1) := by decide +kernel
theorem dX13_is_33 : decode cX13_is 33 = .ok (.ifCond .eq 34, 3) := by decide +kernel
theorem dX13_is_36 : decode cX13_is 36 = .ok (.aload_n 0, 1) := by decide +kernel
theorem dX13_is_37 : decode cX13_is 37 = .ok (.getfield 38, 3) := by decide +kernel
theorem dX13_is_40 : decode cX13_is 40 = .ok (.aload_n 0, 1) := by decide +kernel
theorem dX13_is_41 : decode cX13_is 41 = .ok (.getfield 245, 3) := by decide +kernel
theorem dX13_is_44 : decode cX13_is 44 = .ok (.iload_n 3, 1) := by decide +kernel
theorem dX13_is_45 : decode cX13_is 45 = .ok (.iadd, 1) := by decide +kernel
theorem dX13_is_46 : decode cX13_is 46 = .ok (.iaload, 1) := by decide +kernel
theorem dX13_is_47 : decode cX13_is 47 = .ok (.aload_n 1, 1) := by decide +kernel
theorem dX13_is_48 : decode cX13_is 48 = .ok (.iload_n 3, 1) := by decide +kernel
theorem dX13_is_49 : decode cX13_is 49 = .ok (.invokevirtual 232, 3) := by decide +kernel
theorem dX13_is_52 : decode cX13_is 52 = .ok (.if_icmp .ne 7, 3) := by decide +kernel
theorem dX13_is_55 : decode cX13_is 55 = .ok (.iconst 1, 1) := by decide +kernel
theorem dX13_is_56 : decode cX13_is 56 = .ok (.goto 4, 3) := by decide +kernel
theorem dX13_is_59 : decode cX13_is 59 = .ok (.iconst 0, 1) := by decide +kernel
theorem dX13_is_60 : decode cX13_is 60 = .ok (.istore_n 2, 1) := by decide +kernel
theorem dX13_is_61 : decode cX13_is 61 = .ok (.iinc 3 1, 3) := by decide +kernel
theorem dX13_is_64 : decode cX13_is 64 = .ok (.goto (-40), 3) := by decide +kernel
theorem dX13_is_67 : decode cX13_is 67 = .ok (.iload_n 2, 1) := by decide +kernel
theorem dX13_is_68 : decode cX13_is 68 = .ok (.ireturn, 1) := by decide +kernel
set_option maxRecDepth 20000 in
theorem ggX13_number_X13_takes : GoodIn wsX13_number wsX13_takes := goodIn_r _ [14, 5, 2, 3, 4, 15, 16, 13, 17, 18, 19, 20, 21, 22, 23, 29, 30, 31, 32, 33, 34, 35, 36, 37, 38, 39, 40, 41, 42] (by decide +kernel) (by decide +kernel)
set_option maxRecDepth 20000 in
theorem gX13_number_X13_takes : GoodIn wsX13_number (wsV RX13 254 RX13 yX13_takes wsX13_takes) := goodIn_app (goodIn_of _ (by decide +kernel)) ggX13_number_X13_takes
set_option maxRecDepth 20000 in
theorem ggX13_number_X13_isDigit : GoodIn wsX13_number wsX13_isDigit := goodIn_r _ [23, 18, 19, 13, 20] (by decide +kernel) (by decide +kernel)
set_option maxRecDepth 20000 in
theorem gX13_number_X13_isDigit : GoodIn wsX13_number (va_wsS RX13 251 yX13_isDigit wsX13_isDigit) := goodIn_app (goodIn_of _ (by decide +kernel)) ggX13_number_X13_isDigit
set_option maxRecDepth 20000 in
theorem ggX13_number_X13_fails : GoodIn wsX13_number wsX13_fails := goodIn_r _ [27, 1, 28, 29, 30, 31, 32, 33, 34, 35, 36, 37, 38, 39, 40, 41, 42] (by decide +kernel) (by decide +kernel)
set_option maxRecDepth 20000 in
theorem gX13_number_X13_fails : GoodIn wsX13_number (wsV RX13 257 RX13 yX13_fails wsX13_fails) := goodIn_app (goodIn_of _ (by decide +kernel)) ggX13_number_X13_fails
set_option maxRecDepth 20000 in
theorem ggX13_number_X13_in : GoodIn wsX13_number wsX13_in := goodIn_r _ [20] (by decide +kernel) (by decide +kernel)
set_option maxRecDepth 20000 in
theorem gX13_number_X13_in : GoodIn wsX13_number (va_wsS RX13 7 yX13_in wsX13_in) := goodIn_app (goodIn_of _ (by decide +kernel)) ggX13_number_X13_in
theorem dX13_number_0 : decode cX13_number 0 = .ok (.aload_n 0, 1) := by decide +kernel
theorem dX13_number_1 : decode cX13_number 1 = .ok (.getfield 236, 3) := by decide +kernel
theorem dX13_number_4 : decode cX13_number 4 = .ok (.ifCond .eq 5, 3) := by decide +kernel
theorem dX13_number_7 : decode cX13_number 7 = .ok (.iload_n 1, 1) := by decide +kernel
theorem dX13_number_8 : decode cX13_number 8 = .ok (.ireturn, 1) := by decide +kernel
theorem dX13_number_9 : decode cX13_number 9 = .ok (.aload_n 0, 1) := by decide +kernel
theorem dX13_number_10 : decode cX13_number 10 = .ok (.invokevirtual 254, 3) := by decide +kernel
theorem dX13_number_13 : decode cX13_number 13 = .ok (.aload_n 0, 1) := by decide +kernel
theorem dX13_number_14 : decode cX13_number 14 = .ok (.getfield 245, 3) := by decide +kernel
theorem dX13_number_17 : decode cX13_number 17 = .ok (.aload_n 0, 1) := by decide +kernel
theorem dX13_number_18 : decode cX13_number 18 = .ok (.getfield 218, 3) := by decide +kernel
theorem dX13_number_21 : decode cX13_number 21 = .ok (.if_icmp .eq 18, 3) := by decide +kernel
theorem dX13_number_24 : decode cX13_number 24 = .ok (.aload_n 0, 1) := by decide +kernel
theorem dX13_number_25 : decode cX13_number 25 = .ok (.getfield 38, 3) := by decide +kernel
theorem dX13_number_28 : decode cX13_number 28 = .ok (.aload_n 0, 1) := by decide +kernel
theorem dX13_number_29 : decode cX13_number 29 = .ok (.getfield 245, 3) := by decide +kernel
theorem dX13_number_32 : decode cX13_number 32 = .ok (.iaload, 1) := by decide +kernel
theorem dX13_number_33 : decode cX13_number 33 = .ok (.invokestatic 251, 3) := by decide +kernel
theorem dX13_number_36 : decode cX13_number 36 = .ok (.ifCond .ne 14, 3) := by decide +kernel
theorem dX13_number_39 : decode cX13_number 39 = .ok (.aload_n 0, 1) := by decide +kernel
theorem dX13_number_40 : decode cX13_number 40 = .ok (.iconst 1, 1) := by decide +kernel
theorem dX13_number_41 : decode cX13_number 41 = .ok (.aload_n 0, 1) := by decide +kernel
theorem dX13_number_42 : decode cX13_number 42 = .ok (.getfield 245, 3) := by decide +kernel
theorem dX13_number_45 : decode cX13_number 45 = .ok (.invokevirtual 257, 3) := by decide +kernel
theorem dX13_number_48 : decode cX13_number 48 = .ok (.iload_n 1, 1) := by decide +kernel
theorem dX13_number_49 : decode cX13_number 49 = .ok (.ireturn, 1) := by decide +kernel
theorem dX13_number_50 : decode cX13_number 50 = .ok (.iconst 0, 1) := by decide +kernel
theorem dX13_number_51 : decode cX13_number 51 = .ok (.istore_n 3, 1) := by decide +kernel
theorem dX13_number_52 : decode cX13_number 52 = .ok (.aload_n 0, 1) := by decide +kernel
theorem dX13_number_53 : decode cX13_number 53 = .ok (.getfield 245, 3) := by decide +kernel
theorem dX13_number_56 : decode cX13_number 56 = .ok (.istore 4, 2) := by decide +kernel
theorem dX13_number_58 : decode cX13_number 58 = .ok (.iload 4, 2) := by decide +kernel
theorem dX13_number_60 : decode cX13_number 60 = .ok (.aload_n 0, 1) := by decide +kernel
theorem dX13_number_61 : decode cX13_number 61 = .ok (.getfield 242, 3) := by decide +kernel
theorem dX13_number_64 : decode cX13_number 64 = .ok (.if_icmp .ge 31, 3) := by decide +kernel
theorem dX13_number_67 : decode cX13_number 67 = .ok (.bipush 10, 2) := by decide +kernel
theorem dX13_number_69 : decode cX13_number 69 = .ok (.iload_n 3, 1) := by decide +kernel
theorem dX13_number_70 : decode cX13_number 70 = .ok (.imul, 1) := by decide +kernel
theorem dX13_number_71 : decode cX13_number 71 = .ok (.aload_n 0, 1) := by decide +kernel
theorem dX13_number_72 : decode cX13_number 72 = .ok (.getfield 38, 3) := by decide +kernel
theorem dX13_number_75 : decode cX13_number 75 = .ok (.iload 4, 2) := by decide +kernel
theorem dX13_number_77 : decode cX13_number 77 = .ok (.iaload, 1) := by decide +kernel
theorem dX13_number_78 : decode cX13_number 78 = .ok (.iadd, 1) := by decide +kernel
theorem dX13_number_79 : decode cX13_number 79 = .ok (.bipush 48, 2) := by decide +kernel
theorem dX13_number_81 : decode cX13_number 81 = .ok (.isub, 1) := by decide +kernel
theorem dX13_number_82 : decode cX13_number 82 = .ok (.iload_n 2, 1) := by decide +kernel
theorem dX13_number_83 : decode cX13_number 83 = .ok (.iconst 1, 1) := by decide +kernel
theorem dX13_number_84 : decode cX13_number 84 = .ok (.iadd, 1) := by decide +kernel
theorem dX13_number_85 : decode cX13_number 85 = .ok (.invokestatic 113, 3) := by decide +kernel
theorem dX13_number_88 : decode cX13_number 88 = .ok (.istore_n 3, 1) := by decide +kernel
theorem dX13_number_89 : decode cX13_number 89 = .ok (.iinc 4 1, 3) := by decide +kernel
theorem dX13_number_92 : decode cX13_number 92 = .ok (.goto (-34), 3) := by decide +kernel
theorem dX13_number_95 : decode cX13_number 95 = .ok (.iload_n 3, 1) := by decide +kernel
theorem dX13_number_96 : decode cX13_number 96 = .ok (.iload_n 1, 1) := by decide +kernel
theorem dX13_number_97 : decode cX13_number 97 = .ok (.iload_n 2, 1) := by decide +kernel
theorem dX13_number_98 : decode cX13_number 98 = .ok (.invokestatic 7, 3) := by decide +kernel
theorem dX13_number_101 : decode cX13_number 101 = .ok (.ifCond .ne 12, 3) := by decide +kernel
theorem dX13_number_104 : decode cX13_number 104 = .ok (.aload_n 0, 1) := by decide +kernel
theorem dX13_number_105 : decode cX13_number 105 = .ok (.iconst 2, 1) := by decide +kernel
theorem dX13_number_106 : decode cX13_number 106 = .ok (.aload_n 0, 1) := by decide +kernel
theorem dX13_number_107 : decode cX13_number 107 = .ok (.getfield 245, 3) := by decide +kernel
theorem dX13_number_110 : decode cX13_number 110 = .ok (.invokevirtual 257, 3) := by decide +kernel
theorem dX13_number_113 : decode cX13_number 113 = .ok (.iload_n 3, 1) := by decide +kernel
theorem dX13_number_114 : decode cX13_number 114 = .ok (.ireturn, 1) := by decide +kernel
set_option maxRecDepth 20000 in
theorem ggX13_tapeOf_X13_number : GoodIn wsX13_tapeOf wsX13_number := goodIn_r _ [5, 6, 7, 8, 9, 10, 11, 12, 13, 14, 15, 16, 17, 4, 18, 19, 20, 21, 22, 23, 24, 25, 26, 27, 28, 29, 30, 31, 32, 33, 34, 35, 36, 37, 38, 39, 40, 41, 42, 43, 44, 45, 46] (by decide +kernel) (by decide +kernel)
set_option maxRecDepth 20000 in
theorem gX13_tapeOf_X13_number : GoodIn wsX13_tapeOf (wsV RX13 261 RX13 yX13_number wsX13_number) := goodIn_app (goodIn_of _ (by decide +kernel)) ggX13_tapeOf_X13_number
theorem dX13_tapeOf_0 : decode cX13_tapeOf 0 = .ok (.aload_n 0, 1) := by decide +kernel
theorem dX13_tapeOf_1 : decode cX13_tapeOf 1 = .ok (.iconst 0, 1) := by decide +kernel
theorem dX13_tapeOf_2 : decode cX13_tapeOf 2 = .ok (.bipush 7, 2) := by decide +kernel
theorem dX13_tapeOf_4 : decode cX13_tapeOf 4 = .ok (.invokevirtual 261, 3) := by decide +kernel
theorem dX13_tapeOf_7 : decode cX13_tapeOf 7 = .ok (.ireturn, 1) := by decide +kernel
set_option maxRecDepth 20000 in
theorem ggX13_expects_X13_takes : GoodIn wsX13_expects wsX13_takes := goodIn_r _ [7, 8, 2, 9, 10, 11, 12, 6, 13, 14, 15, 16, 17, 18, 19, 78, 79, 80, 81, 82, 83, 84, 85, 86, 87, 88, 89, 90, 91] (by decide +kernel) (by decide +kernel)
set_option maxRecDepth 20000 in
theorem gX13_expects_X13_takes : GoodIn wsX13_expects (wsV RX13 254 RX13 yX13_takes wsX13_takes) := goodIn_app (goodIn_of _ (by decide +kernel)) ggX13_expects_X13_takes
set_option maxRecDepth 20000 in
theorem ggX13_expects_X13_is : GoodIn wsX13_expects wsX13_is := goodIn_r _ [23, 8, 2, 10, 24, 25, 26, 27, 28, 29, 30, 31, 32, 33, 34, 35, 36, 37, 38, 39, 40, 41, 42, 43, 44, 45, 46, 47, 48, 49, 50, 51, 52, 53, 54, 55, 56, 57, 58, 59, 60, 61, 62, 63, 64, 65, 66, 67, 68, 69, 70, 71, 72, 78, 79, 80, 81, 82, 83, 84, 85, 86, 87, 88, 89, 90, 91] (by decide +kernel) (by decide +kernel)
set_option maxRecDepth 20000 in
theorem gX13_expects_X13_is : GoodIn wsX13_expects (wsV RX13 264 RX13 yX13_is wsX13_is) := goodIn_app (goodIn_of _ (by decide +kernel)) ggX13_expects_X13_is
set_option maxRecDepth 20000 in
theorem ggX13_expects_X13_fails : GoodIn wsX13_expects wsX13_fails := goodIn_r _ [76, 1, 77, 78, 79, 80, 81, 82, 83, 84, 85, 86, 87, 88, 89, 90, 91] (by decide +kernel) (by decide +kernel)
set_option maxRecDepth 20000 in
theorem gX13_expects_X13_fails : GoodIn wsX13_expects (wsV RX13 257 RX13 yX13_fails wsX13_fails) := goodIn_app (goodIn_of _ (by decide +kernel)) ggX13_expects_X13_fails
theorem dX13_expects_0 : decode cX13_expects 0 = .ok (.aload_n 0, 1) := by decide +kernel
theorem dX13_expects_1 : decode cX13_expects 1 = .ok (.getfield 236, 3) := by decide +kernel
theorem dX13_expects_4 : decode cX13_expects 4 = .ok (.ifCond .ne 24, 3) := by decide +kernel
theorem dX13_expects_7 : decode cX13_expects 7 = .ok (.aload_n 0, 1) := by decide +kernel
theorem dX13_expects_8 : decode cX13_expects 8 = .ok (.invokevirtual 254, 3) := by decide +kernel
theorem dX13_expects_11 : decode cX13_expects 11 = .ok (.aload_n 0, 1) := by decide +kernel
theorem dX13_expects_12 : decode cX13_expects 12 = .ok (.aload_n 1, 1) := by decide +kernel
theorem dX13_expects_13 : decode cX13_expects 13 = .ok (.invokevirtual 264, 3) := by decide +kernel
theorem dX13_expects_16 : decode cX13_expects 16 = .ok (.ifCond .ne 12, 3) := by decide +kernel
theorem dX13_expects_19 : decode cX13_expects 19 = .ok (.aload_n 0, 1) := by decide +kernel
theorem dX13_expects_20 : decode cX13_expects 20 = .ok (.iconst 1, 1) := by decide +kernel
theorem dX13_expects_21 : decode cX13_expects 21 = .ok (.aload_n 0, 1) := by decide +kernel
theorem dX13_expects_22 : decode cX13_expects 22 = .ok (.getfield 245, 3) := by decide +kernel
theorem dX13_expects_25 : decode cX13_expects 25 = .ok (.invokevirtual 257, 3) := by decide +kernel
theorem dX13_expects_28 : decode cX13_expects 28 = .ok (.return_, 1) := by decide +kernel
set_option maxRecDepth 20000 in
theorem ggX13_sorts_X13_tapeOf : GoodIn wsX13_sorts wsX13_tapeOf := goodIn_r _ [13, 14, 15, 16, 12, 17, 3, 4, 18, 19, 20, 21, 22, 23, 24, 25, 26, 27, 28, 29, 30, 31, 32, 33, 34, 35, 36, 37, 38, 39, 40, 41, 42, 322, 323, 324, 325, 326, 327, 328, 329, 330, 331, 332, 333, 334, 335] (by decide +kernel) (by decide +kernel)
set_option maxRecDepth 20000 in
theorem gX13_sorts_X13_tapeOf : GoodIn wsX13_sorts (wsV RX13 268 RX13 yX13_tapeOf wsX13_tapeOf) := goodIn_app (goodIn_of _ (by decide +kernel)) ggX13_sorts_X13_tapeOf
set_option maxRecDepth 20000 in
theorem ggX13_sorts_X13_expects : GoodIn wsX13_sorts wsX13_expects := goodIn_r _ [46, 3, 4, 25, 26, 27, 12, 28, 20, 18, 19, 29, 30, 31, 32, 33, 34, 35, 36, 37, 47, 48, 49, 50, 51, 52, 53, 54, 55, 56, 57, 58, 59, 60, 61, 62, 63, 64, 65, 66, 67, 68, 69, 70, 71, 72, 73, 74, 75, 76, 77, 78, 79, 80, 81, 82, 83, 84, 85, 86, 87, 88, 89, 90, 91, 92, 93, 94, 95, 96, 97, 98, 99, 38, 39, 40, 41, 42, 322, 323, 324, 325, 326, 327, 328, 329, 330, 331, 332, 333, 334, 335] (by decide +kernel) (by decide +kernel)
set_option maxRecDepth 20000 in
theorem gX13_sorts_X13_expects : GoodIn wsX13_sorts (wsV RX13 273 RX13 yX13_expects wsX13_expects) := goodIn_app (goodIn_of _ (by decide +kernel)) ggX13_sorts_X13_expects
set_option maxRecDepth 20000 in
theorem ggX13_sorts_X13_takes : GoodIn wsX13_sorts wsX13_takes := goodIn_r _ [28, 20, 4, 18, 19, 29, 30, 12, 31, 32, 33, 34, 35, 36, 37, 322, 323, 324, 325, 326, 327, 328, 329, 330, 331, 332, 333, 334, 335] (by decide +kernel) (by decide +kernel)
set_option maxRecDepth 20000 in
theorem gX13_sorts_X13_takes : GoodIn wsX13_sorts (wsV RX13 254 RX13 yX13_takes wsX13_takes) := goodIn_app (goodIn_of _ (by decide +kernel)) ggX13_sorts_X13_takes
set_option maxRecDepth 20000 in
theorem ggX13_sorts_X13_option : GoodIn wsX13_sorts wsX13_option := goodIn_r _ [103, 47, 48, 49, 12, 50, 20, 4, 19, 51, 52, 53, 54, 55, 56, 57, 58, 59, 60, 61, 62, 63, 64, 65, 66, 67, 68, 69, 70, 71, 72, 73, 74, 75, 76, 77, 78, 79, 80, 81, 82, 83, 84, 85, 86, 87, 88, 89, 90, 91, 92, 93, 94, 95, 96, 97, 98, 99, 14, 15, 16, 17, 3, 18, 21, 22, 23, 24, 25, 26, 27, 28, 29, 30, 31, 32, 33, 34, 35, 36, 37, 38, 39, 40, 41, 42, 322, 323, 324, 325, 326, 327, 328, 329, 330, 331, 332, 333, 334, 335] (by decide +kernel) (by decide +kernel)
set_option maxRecDepth 20000 in
theorem gX13_sorts_X13_option : GoodIn wsX13_sorts (wsV RX13 277 RX13 yX13_option wsX13_option) := goodIn_app (goodIn_of _ (by decide +kernel)) ggX13_sorts_X13_option
set_option maxRecDepth 20000 in
theorem ggX13_sorts_X13_is : GoodIn wsX13_sorts wsX13_is := goodIn_r _ [50, 20, 4, 19, 51, 52, 53, 54, 55, 56, 57, 58, 59, 60, 61, 62, 63, 64, 65, 66, 67, 68, 69, 70, 71, 72, 73, 74, 75, 76, 77, 78, 79, 80, 81, 82, 83, 84, 85, 86, 87, 88, 89, 90, 91, 92, 93, 94, 95, 96, 97, 98, 99, 322, 323, 324, 325, 326, 327, 328, 329, 330, 331, 332, 333, 334, 335] (by decide +kernel) (by decide +kernel)
set_option maxRecDepth 20000 in
theorem gX13_sorts_X13_is : GoodIn wsX13_sorts (wsV RX13 264 RX13 yX13_is wsX13_is) := goodIn_app (goodIn_of _ (by decide +kernel)) ggX13_sorts_X13_is
set_option maxRecDepth 20000 in
theorem ggX13_sorts_X13_fails : GoodIn wsX13_sorts wsX13_fails := goodIn_r _ [41, 3, 42, 322, 323, 324, 325, 326, 327, 328, 329, 330, 331, 332, 333, 334, 335] (by decide +kernel) (by decide +kernel)
set_option maxRecDepth 20000 in
theorem gX13_sorts_X13_fails : GoodIn wsX13_sorts (wsV RX13 257 RX13 yX13_fails wsX13_fails) := goodIn_app (goodIn_of _ (by decide +kernel)) ggX13_sorts_X13_fails
set_option maxRecDepth 20000 in
theorem ggX13_sorts_X12_init : GoodIn wsX13_sorts wsX12_init := goodIn_r _ [106, 107, 108, 109, 110, 1, 111, 112, 113, 114, 115, 116, 117, 118, 119, 120, 121, 122, 123, 124, 125, 126, 127, 128, 129, 130, 131, 132, 133, 134, 12, 135, 136, 137, 138, 139, 140, 141, 21, 22, 23, 24, 142, 143, 144, 145, 146, 147, 148, 149, 150, 151, 152, 153, 154, 155, 156, 157, 158, 159, 160, 161, 162, 163, 164, 165, 166, 167, 168, 169, 170, 171, 172, 173, 174, 175, 176, 177, 178, 179, 180, 181, 182, 183, 184, 185, 186, 187, 188, 189, 190, 191, 192, 193, 194, 195, 196, 197, 198, 199, 200, 201, 202, 203, 204, 205, 206, 207, 208, 209, 210, 211, 212, 213, 214, 215, 216, 217, 218, 219, 220, 221, 222, 223, 224, 225, 226, 227, 228, 229, 230, 231, 80, 81, 82, 232, 233, 234, 235, 236, 237, 238, 239, 240, 241, 242, 243, 244, 245, 246, 247, 248, 249, 250, 251, 252, 253, 254, 255, 256, 257, 258, 259, 260, 261, 262, 263, 264, 265, 266, 7, 267, 268, 269, 270, 271, 272, 273, 274, 275, 276, 336, 337, 338, 339, 340, 341, 342, 343, 344, 345, 346, 347, 348, 349, 350, 351, 322, 323, 324, 325, 326, 327, 328, 329, 330, 331, 332, 333, 334, 335] (by decide +kernel) (by decide +kernel)
set_option maxRecDepth 20000 in
theorem gX13_sorts_X12_init : GoodIn wsX13_sorts (wsX12_init) := ggX13_sorts_X12_init
set_option maxRecDepth 20000 in
theorem ggX13_sorts_X12_goes : GoodIn wsX13_sorts wsX12_goes := goodIn_r _ [280, 281, 282, 283, 7, 284, 285, 286, 287, 288, 115, 289, 273, 220, 221, 114, 222, 167, 275, 224, 225, 226, 227, 228, 229, 230, 231, 80, 81, 82, 232, 233, 234, 235, 123, 290, 291, 292, 293, 269, 1, 107, 111, 116, 294, 118, 295, 112, 113, 296, 297, 298, 299, 300, 301, 22, 23, 24, 302, 181, 182, 119, 120, 121, 122, 124, 125, 126, 127, 128, 129, 130, 131, 132, 133, 109, 110, 276, 162, 163, 164, 165, 166, 168, 169, 170, 171, 172, 173, 174, 175, 176, 177, 178, 179, 180, 183, 184, 185, 186, 187, 188, 189, 190, 191, 192, 193, 194, 195, 196, 197, 198, 199, 200, 201, 202, 203, 204, 205, 206, 207, 208, 209, 210, 303, 304, 305, 261, 12, 262, 263, 240, 241, 242, 243, 244, 306, 307, 308, 309, 310, 311, 312, 313, 314, 315, 316, 317, 336, 337, 338, 339, 340, 341, 342, 343, 344, 345, 346, 347, 348, 349, 350, 322, 323, 324, 325, 326, 327, 328, 329, 330, 331, 332, 333, 334, 335] (by decide +kernel) (by decide +kernel)
set_option maxRecDepth 20000 in
theorem gX13_sorts_X12_goes : GoodIn wsX13_sorts (wsV RX13 155 RX12 yX12_goes wsX12_goes) := goodIn_app (goodIn_of _ (by decide +kernel)) ggX13_sorts_X12_goes
set_option maxRecDepth 20000 in
theorem ggX13_sorts_X12_result : GoodIn wsX13_sorts wsX12_result := goodIn_r _ [321, 115, 289, 269, 1, 273, 220, 221, 114, 222, 167, 275, 224, 225, 226, 227, 228, 229, 230, 231, 80, 81, 82, 232, 233, 234, 235, 123, 274, 212, 213, 214, 336, 337, 338, 339, 340, 341, 342, 343, 344, 345, 346, 347, 348, 349, 350] (by decide +kernel) (by decide +kernel)
set_option maxRecDepth 20000 in
theorem gX13_sorts_X12_result : GoodIn wsX13_sorts (wsV RX13 176 RX12 yX12_result wsX12_result) := goodIn_app (goodIn_of _ (by decide +kernel)) ggX13_sorts_X12_result
theorem dX13_sorts_0 : decode cX13_sorts 0 = .ok (.aload_n 0, 1) := by decide +kernel
theorem dX13_sorts_1 : decode cX13_sorts 1 = .ok (.invokevirtual 268, 3) := by decide +kernel
theorem dX13_sorts_4 : decode cX13_sorts 4 = .ok (.istore_n 2, 1) := by decide +kernel
theorem dX13_sorts_5 : decode cX13_sorts 5 = .ok (.aload_n 0, 1) := by decide +kernel
theorem dX13_sorts_6 : decode cX13_sorts 6 = .ok (.ldc_w 271, 3) := by decide +kernel
theorem dX13_sorts_9 : decode cX13_sorts 9 = .ok (.invokevirtual 273, 3) := by decide +kernel
theorem dX13_sorts_12 : decode cX13_sorts 12 = .ok (.aload_n 0, 1) := by decide +kernel
theorem dX13_sorts_13 : decode cX13_sorts 13 = .ok (.invokevirtual 268, 3) := by decide +kernel
theorem dX13_sorts_16 : decode cX13_sorts 16 = .ok (.istore_n 3, 1) := by decide +kernel
theorem dX13_sorts_17 : decode cX13_sorts 17 = .ok (.iconst 5, 1) := by decide +kernel
theorem dX13_sorts_18 : decode cX13_sorts 18 = .ok (.newarray .int, 2) := by decide +kernel
theorem dX13_sorts_20 : decode cX13_sorts 20 = .ok (.astore 4, 2) := by decide +kernel
theorem dX13_sorts_22 : decode cX13_sorts 22 = .ok (.iconst 0, 1) := by decide +kernel
theorem dX13_sorts_23 : decode cX13_sorts 23 = .ok (.istore 5, 2) := by decide +kernel
theorem dX13_sorts_25 : decode cX13_sorts 25 = .ok (.iload 5, 2) := by decide +kernel
theorem dX13_sorts_27 : decode cX13_sorts 27 = .ok (.iconst 5, 1) := by decide +kernel
theorem dX13_sorts_28 : decode cX13_sorts 28 = .ok (.if_icmp .ge 21, 3) := by decide +kernel
theorem dX13_sorts_31 : decode cX13_sorts 31 = .ok (.aload 4, 2) := by decide +kernel
theorem dX13_sorts_33 : decode cX13_sorts 33 = .ok (.iload 5, 2) := by decide +kernel
theorem dX13_sorts_35 : decode cX13_sorts 35 = .ok (.aload_n 0, 1) := by decide +kernel
theorem dX13_sorts_36 : decode cX13_sorts 36 = .ok (.getfield 35, 3) := by decide +kernel
theorem dX13_sorts_39 : decode cX13_sorts 39 = .ok (.iload 5, 2) := by decide +kernel
theorem dX13_sorts_41 : decode cX13_sorts 41 = .ok (.iaload, 1) := by decide +kernel
theorem dX13_sorts_42 : decode cX13_sorts 42 = .ok (.iastore, 1) := by decide +kernel
theorem dX13_sorts_43 : decode cX13_sorts 43 = .ok (.iinc 5 1, 3) := by decide +kernel
theorem dX13_sorts_46 : decode cX13_sorts 46 = .ok (.goto (-21), 3) := by decide +kernel
theorem dX13_sorts_49 : decode cX13_sorts 49 = .ok (.aload_n 0, 1) := by decide +kernel
theorem dX13_sorts_50 : decode cX13_sorts 50 = .ok (.getfield 236, 3) := by decide +kernel
theorem dX13_sorts_53 : decode cX13_sorts 53 = .ok (.ifCond .ne 7, 3) := by decide +kernel
theorem dX13_sorts_56 : decode cX13_sorts 56 = .ok (.iconst 1, 1) := by decide +kernel
theorem dX13_sorts_57 : decode cX13_sorts 57 = .ok (.goto 4, 3) := by decide +kernel
theorem dX13_sorts_60 : decode cX13_sorts 60 = .ok (.iconst 0, 1) := by decide +kernel
theorem dX13_sorts_61 : decode cX13_sorts 61 = .ok (.istore 5, 2) := by decide +kernel
theorem dX13_sorts_63 : decode cX13_sorts 63 = .ok (.iload 5, 2) := by decide +kernel
theorem dX13_sorts_65 : decode cX13_sorts 65 = .ok (.ifCond .eq 33, 3) := by decide +kernel
theorem dX13_sorts_68 : decode cX13_sorts 68 = .ok (.aload_n 0, 1) := by decide +kernel
theorem dX13_sorts_69 : decode cX13_sorts 69 = .ok (.invokevirtual 254, 3) := by decide +kernel
theorem dX13_sorts_72 : decode cX13_sorts 72 = .ok (.aload_n 0, 1) := by decide +kernel
theorem dX13_sorts_73 : decode cX13_sorts 73 = .ok (.aload 4, 2) := by decide +kernel
theorem dX13_sorts_75 : decode cX13_sorts 75 = .ok (.invokevirtual 277, 3) := by decide +kernel
theorem dX13_sorts_78 : decode cX13_sorts 78 = .ok (.ifCond .eq 14, 3) := by decide +kernel
theorem dX13_sorts_81 : decode cX13_sorts 81 = .ok (.aload_n 0, 1) := by decide +kernel
theorem dX13_sorts_82 : decode cX13_sorts 82 = .ok (.getfield 236, 3) := by decide +kernel
theorem dX13_sorts_85 : decode cX13_sorts 85 = .ok (.ifCond .ne 7, 3) := by decide +kernel
theorem dX13_sorts_88 : decode cX13_sorts 88 = .ok (.iconst 1, 1) := by decide +kernel
theorem dX13_sorts_89 : decode cX13_sorts 89 = .ok (.goto 4, 3) := by decide +kernel
theorem dX13_sorts_92 : decode cX13_sorts 92 = .ok (.iconst 0, 1) := by decide +kernel
theorem dX13_sorts_93 : decode cX13_sorts 93 = .ok (.istore 5, 2) := by decide +kernel
theorem dX13_sorts_95 : decode cX13_sorts 95 = .ok (.goto (-32), 3) := by decide +kernel
theorem dX13_sorts_98 : decode cX13_sorts 98 = .ok (.aload_n 0, 1) := by decide +kernel
theorem dX13_sorts_99 : decode cX13_sorts 99 = .ok (.getfield 236, 3) := by decide +kernel
theorem dX13_sorts_102 : decode cX13_sorts 102 = .ok (.ifCond .ne 22, 3) := by decide +kernel
theorem dX13_sorts_105 : decode cX13_sorts 105 = .ok (.aload_n 0, 1) := by decide +kernel
theorem dX13_sorts_106 : decode cX13_sorts 106 = .ok (.ldc_w 281, 3) := by decide +kernel
theorem dX13_sorts_109 : decode cX13_sorts 109 = .ok (.invokevirtual 264, 3) := by decide +kernel
theorem dX13_sorts_112 : decode cX13_sorts 112 = .ok (.ifCond .ne 12, 3) := by decide +kernel
theorem dX13_sorts_115 : decode cX13_sorts 115 = .ok (.aload_n 0, 1) := by decide +kernel
theorem dX13_sorts_116 : decode cX13_sorts 116 = .ok (.iconst 1, 1) := by decide +kernel
theorem dX13_sorts_117 : decode cX13_sorts 117 = .ok (.aload_n 0, 1) := by decide +kernel
theorem dX13_sorts_118 : decode cX13_sorts 118 = .ok (.getfield 245, 3) := by decide +kernel
theorem dX13_sorts_121 : decode cX13_sorts 121 = .ok (.invokevirtual 257, 3) := by decide +kernel
theorem dX13_sorts_124 : decode cX13_sorts 124 = .ok (.aload_n 0, 1) := by decide +kernel
theorem dX13_sorts_125 : decode cX13_sorts 125 = .ok (.getfield 236, 3) := by decide +kernel
theorem dX13_sorts_128 : decode cX13_sorts 128 = .ok (.ifCond .ne 42, 3) := by decide +kernel
theorem dX13_sorts_131 : decode cX13_sorts 131 = .ok (.iload_n 1, 1) := by decide +kernel
theorem dX13_sorts_132 : decode cX13_sorts 132 = .ok (.ifCond .eq 38, 3) := by decide +kernel
theorem dX13_sorts_135 : decode cX13_sorts 135 = .ok (.new 147, 3) := by decide +kernel
theorem dX13_sorts_138 : decode cX13_sorts 138 = .ok (.dup, 1) := by decide +kernel
theorem dX13_sorts_139 : decode cX13_sorts 139 = .ok (.aload_n 0, 1) := by decide +kernel
theorem dX13_sorts_140 : decode cX13_sorts 140 = .ok (.aload_n 0, 1) := by decide +kernel
theorem dX13_sorts_141 : decode cX13_sorts 141 = .ok (.getfield 32, 3) := by decide +kernel
theorem dX13_sorts_144 : decode cX13_sorts 144 = .ok (.iload_n 2, 1) := by decide +kernel
theorem dX13_sorts_145 : decode cX13_sorts 145 = .ok (.aaload, 1) := by decide +kernel
theorem dX13_sorts_146 : decode cX13_sorts 146 = .ok (.iload_n 3, 1) := by decide +kernel
theorem dX13_sorts_147 : decode cX13_sorts 147 = .ok (.aload 4, 2) := by decide +kernel
theorem dX13_sorts_149 : decode cX13_sorts 149 = .ok (.invokespecial 149, 3) := by decide +kernel
theorem dX13_sorts_152 : decode cX13_sorts 152 = .ok (.astore 6, 2) := by decide +kernel
theorem dX13_sorts_154 : decode cX13_sorts 154 = .ok (.aload 6, 2) := by decide +kernel
theorem dX13_sorts_156 : decode cX13_sorts 156 = .ok (.invokevirtual 155, 3) := by decide +kernel
theorem dX13_sorts_159 : decode cX13_sorts 159 = .ok (.aload_n 0, 1) := by decide +kernel
theorem dX13_sorts_160 : decode cX13_sorts 160 = .ok (.getfield 32, 3) := by decide +kernel
theorem dX13_sorts_163 : decode cX13_sorts 163 = .ok (.iload_n 3, 1) := by decide +kernel
theorem dX13_sorts_164 : decode cX13_sorts 164 = .ok (.aload 6, 2) := by decide +kernel
theorem dX13_sorts_166 : decode cX13_sorts 166 = .ok (.invokevirtual 176, 3) := by decide +kernel
theorem dX13_sorts_169 : decode cX13_sorts 169 = .ok (.aastore, 1) := by decide +kernel
theorem dX13_sorts_170 : decode cX13_sorts 170 = .ok (.return_, 1) := by decide +kernel
set_option maxRecDepth 20000 in
theorem ggX13_option_X13_is : GoodIn wsX13_option wsX13_is := goodIn_r _ [5, 6, 7, 8, 9, 10, 11, 12, 13, 14, 15, 16, 17, 18, 19, 20, 21, 22, 23, 24, 25, 26, 27, 28, 29, 30, 31, 32, 33, 34, 35, 36, 37, 38, 39, 40, 41, 42, 43, 44, 45, 46, 47, 48, 49, 50, 51, 52, 53, 54, 55, 56, 57, 86, 87, 88, 89, 90, 91, 92, 93, 94, 95, 96, 97, 98, 99] (by decide +kernel) (by decide +kernel)
set_option maxRecDepth 20000 in
theorem gX13_option_X13_is : GoodIn wsX13_option (wsV RX13 264 RX13 yX13_is wsX13_is) := goodIn_app (goodIn_of _ (by decide +kernel)) ggX13_option_X13_is
set_option maxRecDepth 20000 in
theorem ggX13_option_X13_number : GoodIn wsX13_option wsX13_number := goodIn_r _ [61, 62, 7, 63, 8, 6, 64, 65, 66, 67, 68, 69, 70, 4, 71, 72, 73, 74, 75, 76, 77, 78, 79, 80, 81, 82, 83, 84, 85, 86, 87, 88, 89, 90, 91, 92, 93, 94, 95, 96, 97, 98, 99] (by decide +kernel) (by decide +kernel)
set_option maxRecDepth 20000 in
theorem gX13_option_X13_number : GoodIn wsX13_option (wsV RX13 261 RX13 yX13_number wsX13_number) := goodIn_app (goodIn_of _ (by decide +kernel)) ggX13_option_X13_number
theorem dX13_option_0 : decode cX13_option 0 = .ok (.aload_n 0, 1) := by decide +kernel
theorem dX13_option_1 : decode cX13_option 1 = .ok (.ldc_w 283, 3) := by decide +kernel
theorem dX13_option_4 : decode cX13_option 4 = .ok (.invokevirtual 264, 3) := by decide +kernel
theorem dX13_option_7 : decode cX13_option 7 = .ok (.ifCond .ne 13, 3) := by decide +kernel
theorem dX13_option_10 : decode cX13_option 10 = .ok (.aload_n 0, 1) := by decide +kernel
theorem dX13_option_11 : decode cX13_option 11 = .ok (.ldc_w 285, 3) := by decide +kernel
theorem dX13_option_14 : decode cX13_option 14 = .ok (.invokevirtual 264, 3) := by decide +kernel
theorem dX13_option_17 : decode cX13_option 17 = .ok (.ifCond .eq 24, 3) := by decide +kernel
theorem dX13_option_20 : decode cX13_option 20 = .ok (.aload_n 1, 1) := by decide +kernel
theorem dX13_option_21 : decode cX13_option 21 = .ok (.iconst 0, 1) := by decide +kernel
theorem dX13_option_22 : decode cX13_option 22 = .ok (.aload_n 0, 1) := by decide +kernel
theorem dX13_option_23 : decode cX13_option 23 = .ok (.ldc_w 283, 3) := by decide +kernel
theorem dX13_option_26 : decode cX13_option 26 = .ok (.invokevirtual 264, 3) := by decide +kernel
theorem dX13_option_29 : decode cX13_option 29 = .ok (.ifCond .eq 7, 3) := by decide +kernel
theorem dX13_option_32 : decode cX13_option 32 = .ok (.iconst 0, 1) := by decide +kernel
theorem dX13_option_33 : decode cX13_option 33 = .ok (.goto 4, 3) := by decide +kernel
theorem dX13_option_36 : decode cX13_option 36 = .ok (.iconst 1, 1) := by decide +kernel
theorem dX13_option_37 : decode cX13_option 37 = .ok (.iastore, 1) := by decide +kernel
theorem dX13_option_38 : decode cX13_option 38 = .ok (.goto 141, 3) := by decide +kernel
theorem dX13_option_41 : decode cX13_option 41 = .ok (.aload_n 0, 1) := by decide +kernel
theorem dX13_option_42 : decode cX13_option 42 = .ok (.ldc_w 287, 3) := by decide +kernel
theorem dX13_option_45 : decode cX13_option 45 = .ok (.invokevirtual 264, 3) := by decide +kernel
theorem dX13_option_48 : decode cX13_option 48 = .ok (.ifCond .eq 10, 3) := by decide +kernel
theorem dX13_option_51 : decode cX13_option 51 = .ok (.aload_n 1, 1) := by decide +kernel
theorem dX13_option_52 : decode cX13_option 52 = .ok (.iconst 1, 1) := by decide +kernel
theorem dX13_option_53 : decode cX13_option 53 = .ok (.iconst 2, 1) := by decide +kernel
theorem dX13_option_54 : decode cX13_option 54 = .ok (.iastore, 1) := by decide +kernel
theorem dX13_option_55 : decode cX13_option 55 = .ok (.goto 124, 3) := by decide +kernel
theorem dX13_option_58 : decode cX13_option 58 = .ok (.aload_n 0, 1) := by decide +kernel
theorem dX13_option_59 : decode cX13_option 59 = .ok (.ldc_w 289, 3) := by decide +kernel
theorem dX13_option_62 : decode cX13_option 62 = .ok (.invokevirtual 264, 3) := by decide +kernel
theorem dX13_option_65 : decode cX13_option 65 = .ok (.ifCond .eq 10, 3) := by decide +kernel
theorem dX13_option_68 : decode cX13_option 68 = .ok (.aload_n 1, 1) := by decide +kernel
theorem dX13_option_69 : decode cX13_option 69 = .ok (.iconst 3, 1) := by decide +kernel
theorem dX13_option_70 : decode cX13_option 70 = .ok (.iconst 1, 1) := by decide +kernel
theorem dX13_option_71 : decode cX13_option 71 = .ok (.iastore, 1) := by decide +kernel
theorem dX13_option_72 : decode cX13_option 72 = .ok (.goto 107, 3) := by decide +kernel
theorem dX13_option_75 : decode cX13_option 75 = .ok (.aload_n 0, 1) := by decide +kernel
theorem dX13_option_76 : decode cX13_option 76 = .ok (.ldc_w 291, 3) := by decide +kernel
theorem dX13_option_79 : decode cX13_option 79 = .ok (.invokevirtual 264, 3) := by decide +kernel
theorem dX13_option_82 : decode cX13_option 82 = .ok (.ifCond .ne 13, 3) := by decide +kernel
theorem dX13_option_85 : decode cX13_option 85 = .ok (.aload_n 0, 1) := by decide +kernel
theorem dX13_option_86 : decode cX13_option 86 = .ok (.ldc_w 293, 3) := by decide +kernel
theorem dX13_option_89 : decode cX13_option 89 = .ok (.invokevirtual 264, 3) := by decide +kernel
theorem dX13_option_92 : decode cX13_option 92 = .ok (.ifCond .eq 34, 3) := by decide +kernel
theorem dX13_option_95 : decode cX13_option 95 = .ok (.aload_n 1, 1) := by decide +kernel
theorem dX13_option_96 : decode cX13_option 96 = .ok (.iconst 1, 1) := by decide +kernel
theorem dX13_option_97 : decode cX13_option 97 = .ok (.aload_n 0, 1) := by decide +kernel
theorem dX13_option_98 : decode cX13_option 98 = .ok (.ldc_w 291, 3) := by decide +kernel
theorem dX13_option_101 : decode cX13_option 101 = .ok (.invokevirtual 264, 3) := by decide +kernel
theorem dX13_option_104 : decode cX13_option 104 = .ok (.ifCond .eq 7, 3) := by decide +kernel
theorem dX13_option_107 : decode cX13_option 107 = .ok (.iconst 0, 1) := by decide +kernel
theorem dX13_option_108 : decode cX13_option 108 = .ok (.goto 4, 3) := by decide +kernel
theorem dX13_option_111 : decode cX13_option 111 = .ok (.iconst 1, 1) := by decide +kernel
theorem dX13_option_112 : decode cX13_option 112 = .ok (.iastore, 1) := by decide +kernel
theorem dX13_option_113 : decode cX13_option 113 = .ok (.aload_n 1, 1) := by decide +kernel
theorem dX13_option_114 : decode cX13_option 114 = .ok (.iconst 2, 1) := by decide +kernel
theorem dX13_option_115 : decode cX13_option 115 = .ok (.aload_n 0, 1) := by decide +kernel
theorem dX13_option_116 : decode cX13_option 116 = .ok (.iconst 1, 1) := by decide +kernel
theorem dX13_option_117 : decode cX13_option 117 = .ok (.bipush 50, 2) := by decide +kernel
theorem dX13_option_119 : decode cX13_option 119 = .ok (.invokevirtual 261, 3) := by decide +kernel
theorem dX13_option_122 : decode cX13_option 122 = .ok (.iastore, 1) := by decide +kernel
theorem dX13_option_123 : decode cX13_option 123 = .ok (.goto 56, 3) := by decide +kernel
theorem dX13_option_126 : decode cX13_option 126 = .ok (.aload_n 0, 1) := by decide +kernel
theorem dX13_option_127 : decode cX13_option 127 = .ok (.ldc_w 295, 3) := by decide +kernel
theorem dX13_option_130 : decode cX13_option 130 = .ok (.invokevirtual 264, 3) := by decide +kernel
theorem dX13_option_133 : decode cX13_option 133 = .ok (.ifCond .ne 13, 3) := by decide +kernel
theorem dX13_option_136 : decode cX13_option 136 = .ok (.aload_n 0, 1) := by decide +kernel
theorem dX13_option_137 : decode cX13_option 137 = .ok (.ldc_w 297, 3) := by decide +kernel
theorem dX13_option_140 : decode cX13_option 140 = .ok (.invokevirtual 264, 3) := by decide +kernel
theorem dX13_option_143 : decode cX13_option 143 = .ok (.ifCond .eq 34, 3) := by decide +kernel
theorem dX13_option_146 : decode cX13_option 146 = .ok (.aload_n 1, 1) := by decide +kernel
theorem dX13_option_147 : decode cX13_option 147 = .ok (.iconst 3, 1) := by decide +kernel
theorem dX13_option_148 : decode cX13_option 148 = .ok (.aload_n 0, 1) := by decide +kernel
theorem dX13_option_149 : decode cX13_option 149 = .ok (.ldc_w 295, 3) := by decide +kernel
theorem dX13_option_152 : decode cX13_option 152 = .ok (.invokevirtual 264, 3) := by decide +kernel
theorem dX13_option_155 : decode cX13_option 155 = .ok (.ifCond .eq 7, 3) := by decide +kernel
theorem dX13_option_158 : decode cX13_option 158 = .ok (.iconst 0, 1) := by decide +kernel
theorem dX13_option_159 : decode cX13_option 159 = .ok (.goto 4, 3) := by decide +kernel
theorem dX13_option_162 : decode cX13_option 162 = .ok (.iconst 2, 1) := by decide +kernel
theorem dX13_option_163 : decode cX13_option 163 = .ok (.iastore, 1) := by decide +kernel
theorem dX13_option_164 : decode cX13_option 164 = .ok (.aload_n 1, 1) := by decide +kernel
theorem dX13_option_165 : decode cX13_option 165 = .ok (.iconst 4, 1) := by decide +kernel
theorem dX13_option_166 : decode cX13_option 166 = .ok (.aload_n 0, 1) := by decide +kernel
theorem dX13_option_167 : decode cX13_option 167 = .ok (.iconst 2, 1) := by decide +kernel
theorem dX13_option_168 : decode cX13_option 168 = .ok (.bipush 6, 2) := by decide +kernel
theorem dX13_option_170 : decode cX13_option 170 = .ok (.invokevirtual 261, 3) := by decide +kernel
theorem dX13_option_173 : decode cX13_option 173 = .ok (.iastore, 1) := by decide +kernel
theorem dX13_option_174 : decode cX13_option 174 = .ok (.goto 5, 3) := by decide +kernel
theorem dX13_option_177 : decode cX13_option 177 = .ok (.iconst 0, 1) := by decide +kernel
theorem dX13_option_178 : decode cX13_option 178 = .ok (.ireturn, 1) := by decide +kernel
theorem dX13_option_179 : decode cX13_option 179 = .ok (.iconst 1, 1) := by decide +kernel
theorem dX13_option_180 : decode cX13_option 180 = .ok (.ireturn, 1) := by decide +kernel
set_option maxRecDepth 20000 in
theorem ggX13_combines_X13_tapeOf : GoodIn wsX13_combines wsX13_tapeOf := goodIn_r _ [7, 8, 9, 10, 6, 11, 1, 12, 13, 14, 15, 16, 17, 18, 19, 20, 21, 22, 23, 24, 25, 26, 27, 28, 29, 30, 31, 32, 33, 34, 35, 36, 37, 233, 234, 235, 236, 237, 238, 239, 240, 241, 242, 243, 244, 245, 246] (by decide +kernel) (by decide +kernel)
set_option maxRecDepth 20000 in
theorem gX13_combines_X13_tapeOf : GoodIn wsX13_combines (wsV RX13 268 RX13 yX13_tapeOf wsX13_tapeOf) := goodIn_app (goodIn_of _ (by decide +kernel)) ggX13_combines_X13_tapeOf
set_option maxRecDepth 20000 in
theorem ggX13_combines_X13_expects : GoodIn wsX13_combines wsX13_expects := goodIn_r _ [41, 1, 12, 20, 21, 22, 6, 23, 15, 13, 14, 24, 25, 26, 27, 28, 29, 30, 31, 32, 42, 43, 44, 45, 46, 47, 48, 49, 50, 51, 52, 53, 54, 55, 56, 57, 58, 59, 60, 61, 62, 63, 64, 65, 66, 67, 68, 69, 70, 71, 72, 73, 74, 75, 76, 77, 78, 79, 80, 81, 82, 83, 84, 85, 86, 87, 88, 89, 90, 91, 92, 93, 94, 33, 34, 35, 36, 37, 233, 234, 235, 236, 237, 238, 239, 240, 241, 242, 243, 244, 245, 246] (by decide +kernel) (by decide +kernel)
set_option maxRecDepth 20000 in
theorem gX13_combines_X13_expects : GoodIn wsX13_combines (wsV RX13 273 RX13 yX13_expects wsX13_expects) := goodIn_app (goodIn_of _ (by decide +kernel)) ggX13_combines_X13_expects
set_option maxRecDepth 20000 in
theorem ggX13_combines_X13_canCombine : GoodIn wsX13_combines wsX13_canCombine := goodIn_r _ [98, 99, 100, 101, 6, 102, 103, 104, 105, 106, 107, 233, 234, 235, 236, 237, 238, 239, 240, 241, 242, 243, 244, 245, 246] (by decide +kernel) (by decide +kernel)
set_option maxRecDepth 20000 in
theorem gX13_combines_X13_canCombine : GoodIn wsX13_combines (wsV RX13 201 RX13 yX13_canCombine wsX13_canCombine) := goodIn_app (goodIn_of _ (by decide +kernel)) ggX13_combines_X13_canCombine
set_option maxRecDepth 20000 in
theorem ggX13_combines_X13_together : GoodIn wsX13_combines wsX13_together := goodIn_r _ [111, 112, 113, 114, 107, 115, 116, 117, 118, 119, 120, 121, 122, 123, 124, 125, 126, 127, 128, 129, 130, 131, 132, 133, 134, 6, 135, 136, 137, 138, 139, 140, 141, 142, 143, 144, 145, 146, 147, 148, 149, 150, 151, 152, 153, 154, 155, 156, 157, 158, 159, 160, 161, 162, 163, 164, 165, 166, 167, 168, 169, 170, 171, 172, 173, 18, 174, 175, 176, 177, 178, 179, 180, 181, 182, 183, 184, 185, 186, 187, 188, 189, 190, 191, 192, 193, 194, 195, 196, 197, 198, 17, 19, 199, 200, 201, 202, 203, 204, 205, 206, 207, 208, 209, 210, 211, 212, 213, 214, 215, 216, 217, 218, 219, 220, 75, 76, 77, 221, 222, 223, 224, 225, 226, 227, 228, 229, 230, 231, 232, 103, 104, 105, 106, 247, 248, 249, 233, 234, 235, 236, 237, 238, 239, 240, 241, 242, 243, 244, 245, 246, 250] (by decide +kernel) (by decide +kernel)
set_option maxRecDepth 20000 in
theorem gX13_combines_X13_together : GoodIn wsX13_combines (wsV RX13 205 RX13 yX13_together wsX13_together) := goodIn_app (goodIn_of _ (by decide +kernel)) ggX13_combines_X13_together
set_option maxRecDepth 20000 in
theorem ggX13_combines_X13_fails : GoodIn wsX13_combines wsX13_fails := goodIn_r _ [36, 1, 37, 233, 234, 235, 236, 237, 238, 239, 240, 241, 242, 243, 244, 245, 246] (by decide +kernel) (by decide +kernel)
set_option maxRecDepth 20000 in
theorem gX13_combines_X13_fails : GoodIn wsX13_combines (wsV RX13 257 RX13 yX13_fails wsX13_fails) := goodIn_app (goodIn_of _ (by decide +kernel)) ggX13_combines_X13_fails
theorem dX13_combines_0 : decode cX13_combines 0 = .ok (.aload_n 0, 1) := by decide +kernel
theorem dX13_combines_1 : decode cX13_combines 1 = .ok (.invokevirtual 268, 3) := by decide +kernel
theorem dX13_combines_4 : decode cX13_combines 4 = .ok (.istore 4, 2) := by decide +kernel
theorem dX13_combines_6 : decode cX13_combines 6 = .ok (.aload_n 0, 1) := by decide +kernel
theorem dX13_combines_7 : decode cX13_combines 7 = .ok (.invokevirtual 268, 3) := by decide +kernel
theorem dX13_combines_10 : decode cX13_combines 10 = .ok (.istore 5, 2) := by decide +kernel
theorem dX13_combines_12 : decode cX13_combines 12 = .ok (.aload_n 0, 1) := by decide +kernel
theorem dX13_combines_13 : decode cX13_combines 13 = .ok (.ldc_w 271, 3) := by decide +kernel
theorem dX13_combines_16 : decode cX13_combines 16 = .ok (.invokevirtual 273, 3) := by decide +kernel
theorem dX13_combines_19 : decode cX13_combines 19 = .ok (.aload_n 0, 1) := by decide +kernel
theorem dX13_combines_20 : decode cX13_combines 20 = .ok (.invokevirtual 268, 3) := by decide +kernel
theorem dX13_combines_23 : decode cX13_combines 23 = .ok (.istore 6, 2) := by decide +kernel
theorem dX13_combines_25 : decode cX13_combines 25 = .ok (.aload_n 0, 1) := by decide +kernel
theorem dX13_combines_26 : decode cX13_combines 26 = .ok (.ldc_w 281, 3) := by decide +kernel
theorem dX13_combines_29 : decode cX13_combines 29 = .ok (.invokevirtual 273, 3) := by decide +kernel
theorem dX13_combines_32 : decode cX13_combines 32 = .ok (.aload_n 0, 1) := by decide +kernel
theorem dX13_combines_33 : decode cX13_combines 33 = .ok (.getfield 236, 3) := by decide +kernel
theorem dX13_combines_36 : decode cX13_combines 36 = .ok (.ifCond .ne 64, 3) := by decide +kernel
theorem dX13_combines_39 : decode cX13_combines 39 = .ok (.iload_n 3, 1) := by decide +kernel
theorem dX13_combines_40 : decode cX13_combines 40 = .ok (.ifCond .eq 60, 3) := by decide +kernel
theorem dX13_combines_43 : decode cX13_combines 43 = .ok (.aload_n 0, 1) := by decide +kernel
theorem dX13_combines_44 : decode cX13_combines 44 = .ok (.aload_n 0, 1) := by decide +kernel
theorem dX13_combines_45 : decode cX13_combines 45 = .ok (.getfield 32, 3) := by decide +kernel
theorem dX13_combines_48 : decode cX13_combines 48 = .ok (.iload 4, 2) := by decide +kernel
theorem dX13_combines_50 : decode cX13_combines 50 = .ok (.aaload, 1) := by decide +kernel
theorem dX13_combines_51 : decode cX13_combines 51 = .ok (.aload_n 0, 1) := by decide +kernel
theorem dX13_combines_52 : decode cX13_combines 52 = .ok (.getfield 32, 3) := by decide +kernel
theorem dX13_combines_55 : decode cX13_combines 55 = .ok (.iload 5, 2) := by decide +kernel
theorem dX13_combines_57 : decode cX13_combines 57 = .ok (.aaload, 1) := by decide +kernel
theorem dX13_combines_58 : decode cX13_combines 58 = .ok (.iload_n 1, 1) := by decide +kernel
theorem dX13_combines_59 : decode cX13_combines 59 = .ok (.invokevirtual 201, 3) := by decide +kernel
theorem dX13_combines_62 : decode cX13_combines 62 = .ok (.ifCond .eq 32, 3) := by decide +kernel
theorem dX13_combines_65 : decode cX13_combines 65 = .ok (.aload_n 0, 1) := by decide +kernel
theorem dX13_combines_66 : decode cX13_combines 66 = .ok (.getfield 32, 3) := by decide +kernel
theorem dX13_combines_69 : decode cX13_combines 69 = .ok (.iload 6, 2) := by decide +kernel
theorem dX13_combines_71 : decode cX13_combines 71 = .ok (.aload_n 0, 1) := by decide +kernel
theorem dX13_combines_72 : decode cX13_combines 72 = .ok (.aload_n 0, 1) := by decide +kernel
theorem dX13_combines_73 : decode cX13_combines 73 = .ok (.getfield 32, 3) := by decide +kernel
theorem dX13_combines_76 : decode cX13_combines 76 = .ok (.iload 4, 2) := by decide +kernel
theorem dX13_combines_78 : decode cX13_combines 78 = .ok (.aaload, 1) := by decide +kernel
theorem dX13_combines_79 : decode cX13_combines 79 = .ok (.aload_n 0, 1) := by decide +kernel
theorem dX13_combines_80 : decode cX13_combines 80 = .ok (.getfield 32, 3) := by decide +kernel
theorem dX13_combines_83 : decode cX13_combines 83 = .ok (.iload 5, 2) := by decide +kernel
theorem dX13_combines_85 : decode cX13_combines 85 = .ok (.aaload, 1) := by decide +kernel
theorem dX13_combines_86 : decode cX13_combines 86 = .ok (.iload_n 1, 1) := by decide +kernel
theorem dX13_combines_87 : decode cX13_combines 87 = .ok (.invokevirtual 205, 3) := by decide +kernel
theorem dX13_combines_90 : decode cX13_combines 90 = .ok (.aastore, 1) := by decide +kernel
theorem dX13_combines_91 : decode cX13_combines 91 = .ok (.goto 9, 3) := by decide +kernel
theorem dX13_combines_94 : decode cX13_combines 94 = .ok (.aload_n 0, 1) := by decide +kernel
theorem dX13_combines_95 : decode cX13_combines 95 = .ok (.iconst 3, 1) := by decide +kernel
theorem dX13_combines_96 : decode cX13_combines 96 = .ok (.iload_n 2, 1) := by decide +kernel
theorem dX13_combines_97 : decode cX13_combines 97 = .ok (.invokevirtual 257, 3) := by decide +kernel
theorem dX13_combines_100 : decode cX13_combines 100 = .ok (.return_, 1) := by decide +kernel
set_option maxRecDepth 20000 in
theorem ggX13_copies_X13_tapeOf : GoodIn wsX13_copies wsX13_tapeOf := goodIn_r _ [7, 8, 9, 10, 6, 11, 1, 12, 13, 14, 15, 16, 17, 18, 19, 20, 21, 22, 23, 24, 25, 26, 27, 28, 29, 30, 31, 32, 33, 34, 35, 36, 37, 95, 96, 97, 98, 99, 100, 101, 102, 103, 104, 105, 106, 107, 108] (by decide +kernel) (by decide +kernel)
set_option maxRecDepth 20000 in
theorem gX13_copies_X13_tapeOf : GoodIn wsX13_copies (wsV RX13 268 RX13 yX13_tapeOf wsX13_tapeOf) := goodIn_app (goodIn_of _ (by decide +kernel)) ggX13_copies_X13_tapeOf
set_option maxRecDepth 20000 in
theorem ggX13_copies_X13_expects : GoodIn wsX13_copies wsX13_expects := goodIn_r _ [41, 1, 12, 20, 21, 22, 6, 23, 15, 13, 14, 24, 25, 26, 27, 28, 29, 30, 31, 32, 42, 43, 44, 45, 46, 47, 48, 49, 50, 51, 52, 53, 54, 55, 56, 57, 58, 59, 60, 61, 62, 63, 64, 65, 66, 67, 68, 69, 70, 71, 72, 73, 74, 75, 76, 77, 78, 79, 80, 81, 82, 83, 84, 85, 86, 87, 88, 89, 90, 91, 92, 93, 94, 33, 34, 35, 36, 37, 95, 96, 97, 98, 99, 100, 101, 102, 103, 104, 105, 106, 107, 108] (by decide +kernel) (by decide +kernel)
set_option maxRecDepth 20000 in
theorem gX13_copies_X13_expects : GoodIn wsX13_copies (wsV RX13 273 RX13 yX13_expects wsX13_expects) := goodIn_app (goodIn_of _ (by decide +kernel)) ggX13_copies_X13_expects
theorem dX13_copies_0 : decode cX13_copies 0 = .ok (.aload_n 0, 1) := by decide +kernel
theorem dX13_copies_1 : decode cX13_copies 1 = .ok (.invokevirtual 268, 3) := by decide +kernel
theorem dX13_copies_4 : decode cX13_copies 4 = .ok (.istore_n 2, 1) := by decide +kernel
theorem dX13_copies_5 : decode cX13_copies 5 = .ok (.aload_n 0, 1) := by decide +kernel
theorem dX13_copies_6 : decode cX13_copies 6 = .ok (.ldc_w 271, 3) := by decide +kernel
theorem dX13_copies_9 : decode cX13_copies 9 = .ok (.invokevirtual 273, 3) := by decide +kernel
theorem dX13_copies_12 : decode cX13_copies 12 = .ok (.aload_n 0, 1) := by decide +kernel
theorem dX13_copies_13 : decode cX13_copies 13 = .ok (.invokevirtual 268, 3) := by decide +kernel
theorem dX13_copies_16 : decode cX13_copies 16 = .ok (.istore_n 3, 1) := by decide +kernel
theorem dX13_copies_17 : decode cX13_copies 17 = .ok (.aload_n 0, 1) := by decide +kernel
theorem dX13_copies_18 : decode cX13_copies 18 = .ok (.ldc_w 281, 3) := by decide +kernel
theorem dX13_copies_21 : decode cX13_copies 21 = .ok (.invokevirtual 273, 3) := by decide +kernel
theorem dX13_copies_24 : decode cX13_copies 24 = .ok (.aload_n 0, 1) := by decide +kernel
theorem dX13_copies_25 : decode cX13_copies 25 = .ok (.getfield 236, 3) := by decide +kernel
theorem dX13_copies_28 : decode cX13_copies 28 = .ok (.ifCond .ne 19, 3) := by decide +kernel
theorem dX13_copies_31 : decode cX13_copies 31 = .ok (.iload_n 1, 1) := by decide +kernel
theorem dX13_copies_32 : decode cX13_copies 32 = .ok (.ifCond .eq 15, 3) := by decide +kernel
theorem dX13_copies_35 : decode cX13_copies 35 = .ok (.aload_n 0, 1) := by decide +kernel
theorem dX13_copies_36 : decode cX13_copies 36 = .ok (.getfield 32, 3) := by decide +kernel
theorem dX13_copies_39 : decode cX13_copies 39 = .ok (.iload_n 3, 1) := by decide +kernel
theorem dX13_copies_40 : decode cX13_copies 40 = .ok (.aload_n 0, 1) := by decide +kernel
theorem dX13_copies_41 : decode cX13_copies 41 = .ok (.getfield 32, 3) := by decide +kernel
theorem dX13_copies_44 : decode cX13_copies 44 = .ok (.iload_n 2, 1) := by decide +kernel
theorem dX13_copies_45 : decode cX13_copies 45 = .ok (.aaload, 1) := by decide +kernel
theorem dX13_copies_46 : decode cX13_copies 46 = .ok (.aastore, 1) := by decide +kernel
theorem dX13_copies_47 : decode cX13_copies 47 = .ok (.return_, 1) := by decide +kernel
set_option maxRecDepth 20000 in
theorem ggX13_changes_X13_tapeOf : GoodIn wsX13_changes wsX13_tapeOf := goodIn_r _ [8, 9, 10, 11, 7, 12, 1, 13, 14, 15, 16, 17, 18, 19, 20, 21, 22, 23, 24, 25, 26, 27, 28, 29, 30, 31, 32, 33, 34, 35, 36, 37, 38, 216, 217, 218, 219, 220, 221, 222, 223, 224, 225, 226, 227, 228, 229] (by decide +kernel) (by decide +kernel)
set_option maxRecDepth 20000 in
theorem gX13_changes_X13_tapeOf : GoodIn wsX13_changes (wsV RX13 268 RX13 yX13_tapeOf wsX13_tapeOf) := goodIn_app (goodIn_of _ (by decide +kernel)) ggX13_changes_X13_tapeOf
set_option maxRecDepth 20000 in
theorem ggX13_changes_X13_expects : GoodIn wsX13_changes wsX13_expects := goodIn_r _ [42, 1, 13, 21, 22, 23, 7, 24, 16, 14, 15, 25, 26, 27, 28, 29, 30, 31, 32, 33, 43, 44, 45, 46, 47, 48, 49, 50, 51, 52, 53, 54, 55, 56, 57, 58, 59, 60, 61, 62, 63, 64, 65, 66, 67, 68, 69, 70, 71, 72, 73, 74, 75, 76, 77, 78, 79, 80, 81, 82, 83, 84, 85, 86, 87, 88, 89, 90, 91, 92, 93, 94, 95, 34, 35, 36, 37, 38, 216, 217, 218, 219, 220, 221, 222, 223, 224, 225, 226, 227, 228, 229] (by decide +kernel) (by decide +kernel)
set_option maxRecDepth 20000 in
theorem gX13_changes_X13_expects : GoodIn wsX13_changes (wsV RX13 273 RX13 yX13_expects wsX13_expects) := goodIn_app (goodIn_of _ (by decide +kernel)) ggX13_changes_X13_expects
set_option maxRecDepth 20000 in
theorem ggX13_changes_X13_turned : GoodIn wsX13_changes wsX13_turned := goodIn_r _ [98, 3] (by decide +kernel) (by decide +kernel)
set_option maxRecDepth 20000 in
theorem gX13_changes_X13_turned : GoodIn wsX13_changes (va_wsS RX13 75 yX13_turned wsX13_turned) := goodIn_app (goodIn_of _ (by decide +kernel)) ggX13_changes_X13_turned
set_option maxRecDepth 20000 in
theorem ggX13_changes_X13_thinned : GoodIn wsX13_changes wsX13_thinned := goodIn_r _ [102, 103, 104, 105, 106, 107, 108, 109, 110, 111, 112, 113, 114, 115, 116, 117, 118, 119, 120, 121, 122, 123, 28, 29, 7, 30, 124, 125, 126, 127, 128, 129, 130, 131, 132, 133, 134, 135, 136, 137, 138, 139, 140, 141, 142, 143, 144, 145, 146, 147, 148, 149, 150, 151, 152, 153, 154, 155, 156, 157, 158, 159, 160, 161, 19, 162, 163, 164, 165, 166, 167, 168, 169, 170, 171, 172, 173, 174, 175, 176, 177, 178, 179, 180, 181, 182, 183, 184, 185, 186, 18, 20, 187, 188, 189, 190, 191, 192, 193, 3, 194, 195, 196, 197, 198, 199, 200, 201, 202, 203, 204, 205, 206, 207, 76, 77, 78, 208, 209, 210, 211, 212, 213, 214, 215, 230, 231, 232, 216, 217, 218, 219, 220, 221, 222, 223, 224, 225, 226, 227, 228, 229, 233] (by decide +kernel) (by decide +kernel)
set_option maxRecDepth 20000 in
theorem gX13_changes_X13_thinned : GoodIn wsX13_changes (wsV RX13 209 RX13 yX13_thinned wsX13_thinned) := goodIn_app (goodIn_of _ (by decide +kernel)) ggX13_changes_X13_thinned
theorem dX13_changes_0 : decode cX13_changes 0 = .ok (.aload_n 0, 1) := by decide +kernel
theorem dX13_changes_1 : decode cX13_changes 1 = .ok (.invokevirtual 268, 3) := by decide +kernel
theorem dX13_changes_4 : decode cX13_changes 4 = .ok (.istore_n 3, 1) := by decide +kernel
theorem dX13_changes_5 : decode cX13_changes 5 = .ok (.aload_n 0, 1) := by decide +kernel
theorem dX13_changes_6 : decode cX13_changes 6 = .ok (.ldc_w 281, 3) := by decide +kernel
theorem dX13_changes_9 : decode cX13_changes 9 = .ok (.invokevirtual 273, 3) := by decide +kernel
theorem dX13_changes_12 : decode cX13_changes 12 = .ok (.aload_n 0, 1) := by decide +kernel
theorem dX13_changes_13 : decode cX13_changes 13 = .ok (.getfield 236, 3) := by decide +kernel
theorem dX13_changes_16 : decode cX13_changes 16 = .ok (.ifCond .ne 61, 3) := by decide +kernel
theorem dX13_changes_19 : decode cX13_changes 19 = .ok (.iload_n 2, 1) := by decide +kernel
theorem dX13_changes_20 : decode cX13_changes 20 = .ok (.ifCond .eq 57, 3) := by decide +kernel
theorem dX13_changes_23 : decode cX13_changes 23 = .ok (.aload_n 0, 1) := by decide +kernel
theorem dX13_changes_24 : decode cX13_changes 24 = .ok (.getfield 32, 3) := by decide +kernel
theorem dX13_changes_27 : decode cX13_changes 27 = .ok (.iload_n 3, 1) := by decide +kernel
theorem dX13_changes_28 : decode cX13_changes 28 = .ok (.iload_n 1, 1) := by decide +kernel
theorem dX13_changes_29 : decode cX13_changes 29 = .ok (.iconst 2, 1) := by decide +kernel
theorem dX13_changes_30 : decode cX13_changes 30 = .ok (.if_icmp .ne 15, 3) := by decide +kernel
theorem dX13_changes_33 : decode cX13_changes 33 = .ok (.aload_n 0, 1) := by decide +kernel
theorem dX13_changes_34 : decode cX13_changes 34 = .ok (.getfield 32, 3) := by decide +kernel
theorem dX13_changes_37 : decode cX13_changes 37 = .ok (.iload_n 3, 1) := by decide +kernel
theorem dX13_changes_38 : decode cX13_changes 38 = .ok (.aaload, 1) := by decide +kernel
theorem dX13_changes_39 : decode cX13_changes 39 = .ok (.invokestatic 75, 3) := by decide +kernel
theorem dX13_changes_42 : decode cX13_changes 42 = .ok (.goto 34, 3) := by decide +kernel
theorem dX13_changes_45 : decode cX13_changes 45 = .ok (.iload_n 1, 1) := by decide +kernel
theorem dX13_changes_46 : decode cX13_changes 46 = .ok (.iconst 3, 1) := by decide +kernel
theorem dX13_changes_47 : decode cX13_changes 47 = .ok (.if_icmp .ne 9, 3) := by decide +kernel
theorem dX13_changes_50 : decode cX13_changes 50 = .ok (.iconst 0, 1) := by decide +kernel
theorem dX13_changes_51 : decode cX13_changes 51 = .ok (.newarray .int, 2) := by decide +kernel
theorem dX13_changes_53 : decode cX13_changes 53 = .ok (.goto 23, 3) := by decide +kernel
theorem dX13_changes_56 : decode cX13_changes 56 = .ok (.aload_n 0, 1) := by decide +kernel
theorem dX13_changes_57 : decode cX13_changes 57 = .ok (.aload_n 0, 1) := by decide +kernel
theorem dX13_changes_58 : decode cX13_changes 58 = .ok (.getfield 32, 3) := by decide +kernel
theorem dX13_changes_61 : decode cX13_changes 61 = .ok (.iload_n 3, 1) := by decide +kernel
theorem dX13_changes_62 : decode cX13_changes 62 = .ok (.aaload, 1) := by decide +kernel
theorem dX13_changes_63 : decode cX13_changes 63 = .ok (.iload_n 1, 1) := by decide +kernel
theorem dX13_changes_64 : decode cX13_changes 64 = .ok (.iconst 1, 1) := by decide +kernel
theorem dX13_changes_65 : decode cX13_changes 65 = .ok (.if_icmp .ne 7, 3) := by decide +kernel
theorem dX13_changes_68 : decode cX13_changes 68 = .ok (.iconst 1, 1) := by decide +kernel
theorem dX13_changes_69 : decode cX13_changes 69 = .ok (.goto 4, 3) := by decide +kernel
theorem dX13_changes_72 : decode cX13_changes 72 = .ok (.iconst 0, 1) := by decide +kernel
theorem dX13_changes_73 : decode cX13_changes 73 = .ok (.invokevirtual 209, 3) := by decide +kernel
theorem dX13_changes_76 : decode cX13_changes 76 = .ok (.aastore, 1) := by decide +kernel
theorem dX13_changes_77 : decode cX13_changes 77 = .ok (.return_, 1) := by decide +kernel
set_option maxRecDepth 20000 in
theorem ggX13_statement_X13_is : GoodIn wsX13_statement wsX13_is := goodIn_r _ [6, 7, 1, 8, 9, 10, 11, 12, 13, 14, 15, 16, 17, 18, 19, 20, 21, 22, 23, 24, 25, 26, 27, 28, 29, 30, 31, 32, 33, 34, 35, 36, 37, 38, 39, 40, 41, 42, 43, 44, 45, 46, 47, 48, 49, 50, 51, 52, 53, 54, 55, 56, 57, 361, 362, 363, 364, 365, 366, 367, 368, 369, 370, 371, 372, 373, 374] (by decide +kernel) (by decide +kernel)
set_option maxRecDepth 20000 in
theorem gX13_statement_X13_is : GoodIn wsX13_statement (wsV RX13 264 RX13 yX13_is wsX13_is) := goodIn_app (goodIn_of _ (by decide +kernel)) ggX13_statement_X13_is
set_option maxRecDepth 20000 in
theorem ggX13_statement_X13_sorts : GoodIn wsX13_statement wsX13_sorts := goodIn_r _ [61, 62, 63, 64, 1, 65, 66, 67, 68, 69, 70, 71, 5, 72, 73, 74, 75, 76, 77, 8, 7, 78, 79, 80, 81, 82, 83, 84, 85, 86, 87, 88, 89, 90, 91, 92, 93, 94, 95, 96, 97, 98, 99, 100, 101, 102, 103, 2, 3, 4, 6, 9, 10, 11, 12, 13, 14, 15, 16, 17, 18, 19, 20, 21, 22, 23, 24, 25, 26, 27, 28, 29, 30, 31, 32, 33, 34, 35, 36, 37, 38, 39, 40, 41, 42, 43, 44, 45, 46, 47, 48, 49, 50, 51, 52, 53, 54, 55, 56, 57, 104, 105, 106, 107, 108, 109, 110, 111, 112, 113, 114, 115, 116, 117, 118, 119, 120, 121, 122, 123, 124, 125, 126, 127, 128, 129, 130, 131, 132, 133, 134, 135, 136, 137, 138, 139, 140, 141, 142, 143, 144, 145, 146, 147, 148, 149, 150, 151, 152, 153, 154, 155, 156, 157, 158, 159, 160, 161, 162, 163, 164, 165, 166, 167, 168, 169, 170, 171, 172, 173, 174, 175, 176, 177, 178, 179, 180, 181, 182, 183, 184, 185, 186, 187, 188, 189, 190, 191, 192, 193, 194, 195, 196, 197, 198, 199, 200, 201, 202, 203, 204, 205, 206, 207, 208, 209, 210, 211, 212, 213, 214, 215, 216, 217, 218, 219, 220, 221, 222, 223, 224, 225, 226, 227, 228, 229, 230, 231, 232, 233, 234, 235, 236, 237, 238, 239, 240, 241, 242, 243, 244, 245, 246, 247, 248, 249, 250, 251, 252, 253, 254, 255, 256, 257, 258, 259, 260, 261, 262, 263, 264, 265, 266, 267, 268, 269, 270, 271, 272, 273, 274, 275, 276, 277, 278, 279, 280, 281, 282, 283, 284, 285, 286, 287, 288, 289, 290, 291, 292, 293, 294, 295, 296, 297, 298, 299, 300, 301, 302, 303, 304, 305, 306, 307, 308, 309, 310, 311, 312, 313, 314, 315, 316, 317, 318, 319, 320, 321, 322, 323, 324, 325, 361, 362, 363, 364, 365, 366, 367, 368, 369, 370, 371, 372, 373, 374, 375, 376, 377, 378, 379, 380, 381, 382, 383, 384, 385, 386, 387, 388, 389, 390] (by decide +kernel) (by decide +kernel)
set_option maxRecDepth 20000 in
theorem gX13_statement_X13_sorts : GoodIn wsX13_statement (wsV RX13 301 RX13 yX13_sorts wsX13_sorts) := goodIn_app (goodIn_of _ (by decide +kernel)) ggX13_statement_X13_sorts
set_option maxRecDepth 20000 in
theorem ggX13_statement_X13_combines : GoodIn wsX13_statement wsX13_combines := goodIn_r _ [329, 64, 68, 69, 70, 71, 5, 72, 73, 74, 75, 76, 1, 77, 8, 7, 78, 79, 80, 81, 82, 83, 84, 85, 86, 87, 88, 89, 90, 91, 92, 93, 94, 95, 96, 97, 98, 99, 100, 101, 102, 103, 2, 3, 4, 6, 9, 10, 11, 12, 13, 14, 15, 16, 17, 18, 19, 20, 21, 22, 23, 24, 25, 26, 27, 28, 29, 30, 31, 32, 33, 34, 35, 36, 37, 38, 39, 40, 41, 42, 43, 44, 45, 46, 47, 48, 49, 50, 51, 52, 53, 54, 55, 56, 57, 330, 331, 332, 333, 334, 335, 336, 337, 244, 245, 246, 247, 248, 338, 339, 340, 341, 141, 117, 118, 147, 124, 125, 126, 127, 128, 129, 130, 131, 132, 133, 134, 135, 136, 137, 113, 114, 342, 343, 344, 345, 148, 149, 150, 151, 152, 153, 154, 155, 156, 157, 158, 159, 160, 161, 162, 163, 164, 165, 166, 167, 168, 169, 170, 171, 172, 173, 174, 175, 176, 177, 178, 179, 180, 181, 182, 183, 184, 185, 186, 187, 188, 189, 190, 191, 192, 193, 194, 195, 196, 197, 198, 199, 200, 201, 202, 203, 204, 205, 206, 207, 208, 209, 210, 211, 212, 213, 214, 258, 259, 260, 62, 146, 223, 224, 225, 226, 227, 228, 229, 230, 231, 232, 233, 234, 235, 236, 237, 238, 239, 240, 241, 242, 243, 264, 265, 266, 267, 361, 362, 363, 364, 365, 366, 367, 368, 369, 370, 371, 372, 373, 374, 387, 388, 389, 390] (by decide +kernel) (by decide +kernel)
set_option maxRecDepth 20000 in
theorem gX13_statement_X13_combines : GoodIn wsX13_statement (wsV RX13 311 RX13 yX13_combines wsX13_combines) := goodIn_app (goodIn_of _ (by decide +kernel)) ggX13_statement_X13_combines
set_option maxRecDepth 20000 in
theorem ggX13_statement_X13_copies : GoodIn wsX13_statement wsX13_copies := goodIn_r _ [349, 64, 68, 69, 70, 71, 5, 72, 73, 74, 75, 76, 1, 77, 8, 7, 78, 79, 80, 81, 82, 83, 84, 85, 86, 87, 88, 89, 90, 91, 92, 93, 94, 95, 96, 97, 98, 99, 100, 101, 102, 103, 2, 3, 4, 6, 9, 10, 11, 12, 13, 14, 15, 16, 17, 18, 19, 20, 21, 22, 23, 24, 25, 26, 27, 28, 29, 30, 31, 32, 33, 34, 35, 36, 37, 38, 39, 40, 41, 42, 43, 44, 45, 46, 47, 48, 49, 50, 51, 52, 53, 54, 55, 56, 57, 361, 362, 363, 364, 365, 366, 367, 368, 369, 370, 371, 372, 373, 374] (by decide +kernel) (by decide +kernel)
set_option maxRecDepth 20000 in
theorem gX13_statement_X13_copies : GoodIn wsX13_statement (wsV RX13 317 RX13 yX13_copies wsX13_copies) := goodIn_app (goodIn_of _ (by decide +kernel)) ggX13_statement_X13_copies
set_option maxRecDepth 20000 in
theorem ggX13_statement_X13_changes : GoodIn wsX13_statement wsX13_changes := goodIn_r _ [353, 64, 68, 62, 69, 70, 71, 5, 72, 73, 74, 75, 76, 1, 77, 8, 7, 78, 79, 80, 81, 82, 83, 84, 85, 86, 87, 88, 89, 90, 91, 92, 93, 94, 95, 96, 97, 98, 99, 100, 101, 102, 103, 2, 3, 4, 6, 9, 10, 11, 12, 13, 14, 15, 16, 17, 18, 19, 20, 21, 22, 23, 24, 25, 26, 27, 28, 29, 30, 31, 32, 33, 34, 35, 36, 37, 38, 39, 40, 41, 42, 43, 44, 45, 46, 47, 48, 49, 50, 51, 52, 53, 54, 55, 56, 57, 354, 355, 356, 357, 358, 359, 360, 141, 117, 118, 248, 147, 124, 125, 126, 127, 128, 129, 130, 131, 132, 133, 134, 135, 136, 137, 113, 114, 148, 149, 150, 151, 152, 153, 154, 155, 156, 157, 158, 159, 160, 161, 162, 163, 164, 165, 166, 167, 168, 169, 170, 171, 172, 173, 174, 175, 176, 177, 178, 179, 180, 181, 182, 183, 184, 185, 186, 187, 188, 189, 190, 191, 192, 193, 194, 195, 196, 197, 198, 199, 200, 201, 202, 203, 204, 205, 206, 207, 208, 209, 210, 211, 212, 213, 214, 258, 259, 260, 146, 223, 224, 225, 226, 227, 228, 229, 230, 231, 232, 233, 234, 235, 236, 237, 238, 239, 240, 241, 242, 243, 361, 362, 363, 364, 365, 366, 367, 368, 369, 370, 371, 372, 373, 374, 387, 388, 389, 390] (by decide +kernel) (by decide +kernel)
set_option maxRecDepth 20000 in
theorem gX13_statement_X13_changes : GoodIn wsX13_statement (wsV RX13 328 RX13 yX13_changes wsX13_changes) := goodIn_app (goodIn_of _ (by decide +kernel)) ggX13_statement_X13_changes
set_option maxRecDepth 20000 in
theorem ggX13_statement_X13_fails : GoodIn wsX13_statement wsX13_fails := goodIn_r _ [98, 64, 99, 361, 362, 363, 364, 365, 366, 367, 368, 369, 370, 371, 372, 373, 374] (by decide +kernel) (by decide +kernel)
set_option maxRecDepth 20000 in
theorem gX13_statement_X13_fails : GoodIn wsX13_statement (wsV RX13 257 RX13 yX13_fails wsX13_fails) := goodIn_app (goodIn_of _ (by decide +kernel)) ggX13_statement_X13_fails
theorem dX13_statement_0 : decode cX13_statement 0 = .ok (.aload_n 0, 1) := by decide +kernel
theorem dX13_statement_1 : decode cX13_statement 1 = .ok (.getfield 245, 3) := by decide +kernel
theorem dX13_statement_4 : decode cX13_statement 4 = .ok (.istore_n 2, 1) := by decide +kernel
theorem dX13_statement_5 : decode cX13_statement 5 = .ok (.aload_n 0, 1) := by decide +kernel
theorem dX13_statement_6 : decode cX13_statement 6 = .ok (.ldc_w 299, 3) := by decide +kernel
theorem dX13_statement_9 : decode cX13_statement 9 = .ok (.invokevirtual 264, 3) := by decide +kernel
theorem dX13_statement_12 : decode cX13_statement 12 = .ok (.ifCond .eq 11, 3) := by decide +kernel
theorem dX13_statement_15 : decode cX13_statement 15 = .ok (.aload_n 0, 1) := by decide +kernel
theorem dX13_statement_16 : decode cX13_statement 16 = .ok (.iload_n 1, 1) := by decide +kernel
theorem dX13_statement_17 : decode cX13_statement 17 = .ok (.invokevirtual 301, 3) := by decide +kernel
theorem dX13_statement_20 : decode cX13_statement 20 = .ok (.goto 189, 3) := by decide +kernel
theorem dX13_statement_23 : decode cX13_statement 23 = .ok (.aload_n 0, 1) := by decide +kernel
theorem dX13_statement_24 : decode cX13_statement 24 = .ok (.ldc_w 305, 3) := by decide +kernel
theorem dX13_statement_27 : decode cX13_statement 27 = .ok (.invokevirtual 264, 3) := by decide +kernel
theorem dX13_statement_30 : decode cX13_statement 30 = .ok (.ifCond .ne 23, 3) := by decide +kernel
theorem dX13_statement_33 : decode cX13_statement 33 = .ok (.aload_n 0, 1) := by decide +kernel
theorem dX13_statement_34 : decode cX13_statement 34 = .ok (.ldc_w 307, 3) := by decide +kernel
theorem dX13_statement_37 : decode cX13_statement 37 = .ok (.invokevirtual 264, 3) := by decide +kernel
theorem dX13_statement_40 : decode cX13_statement 40 = .ok (.ifCond .ne 13, 3) := by decide +kernel
theorem dX13_statement_43 : decode cX13_statement 43 = .ok (.aload_n 0, 1) := by decide +kernel
theorem dX13_statement_44 : decode cX13_statement 44 = .ok (.ldc_w 309, 3) := by decide +kernel
theorem dX13_statement_47 : decode cX13_statement 47 = .ok (.invokevirtual 264, 3) := by decide +kernel
theorem dX13_statement_50 : decode cX13_statement 50 = .ok (.ifCond .eq 41, 3) := by decide +kernel
theorem dX13_statement_53 : decode cX13_statement 53 = .ok (.aload_n 0, 1) := by decide +kernel
theorem dX13_statement_54 : decode cX13_statement 54 = .ok (.aload_n 0, 1) := by decide +kernel
theorem dX13_statement_55 : decode cX13_statement 55 = .ok (.ldc_w 305, 3) := by decide +kernel
theorem dX13_statement_58 : decode cX13_statement 58 = .ok (.invokevirtual 264, 3) := by decide +kernel
theorem dX13_statement_61 : decode cX13_statement 61 = .ok (.ifCond .eq 7, 3) := by decide +kernel
theorem dX13_statement_64 : decode cX13_statement 64 = .ok (.iconst 0, 1) := by decide +kernel
theorem dX13_statement_65 : decode cX13_statement 65 = .ok (.goto 18, 3) := by decide +kernel
theorem dX13_statement_68 : decode cX13_statement 68 = .ok (.aload_n 0, 1) := by decide +kernel
theorem dX13_statement_69 : decode cX13_statement 69 = .ok (.ldc_w 307, 3) := by decide +kernel
theorem dX13_statement_72 : decode cX13_statement 72 = .ok (.invokevirtual 264, 3) := by decide +kernel
theorem dX13_statement_75 : decode cX13_statement 75 = .ok (.ifCond .eq 7, 3) := by decide +kernel
theorem dX13_statement_78 : decode cX13_statement 78 = .ok (.iconst 1, 1) := by decide +kernel
theorem dX13_statement_79 : decode cX13_statement 79 = .ok (.goto 4, 3) := by decide +kernel
theorem dX13_statement_82 : decode cX13_statement 82 = .ok (.iconst 2, 1) := by decide +kernel
theorem dX13_statement_83 : decode cX13_statement 83 = .ok (.iload_n 2, 1) := by decide +kernel
theorem dX13_statement_84 : decode cX13_statement 84 = .ok (.iload_n 1, 1) := by decide +kernel
theorem dX13_statement_85 : decode cX13_statement 85 = .ok (.invokevirtual 311, 3) := by decide +kernel
theorem dX13_statement_88 : decode cX13_statement 88 = .ok (.goto 121, 3) := by decide +kernel
theorem dX13_statement_91 : decode cX13_statement 91 = .ok (.aload_n 0, 1) := by decide +kernel
theorem dX13_statement_92 : decode cX13_statement 92 = .ok (.ldc_w 315, 3) := by decide +kernel
theorem dX13_statement_95 : decode cX13_statement 95 = .ok (.invokevirtual 264, 3) := by decide +kernel
theorem dX13_statement_98 : decode cX13_statement 98 = .ok (.ifCond .eq 11, 3) := by decide +kernel
theorem dX13_statement_101 : decode cX13_statement 101 = .ok (.aload_n 0, 1) := by decide +kernel
theorem dX13_statement_102 : decode cX13_statement 102 = .ok (.iload_n 1, 1) := by decide +kernel
theorem dX13_statement_103 : decode cX13_statement 103 = .ok (.invokevirtual 317, 3) := by decide +kernel
theorem dX13_statement_106 : decode cX13_statement 106 = .ok (.goto 103, 3) := by decide +kernel
theorem dX13_statement_109 : decode cX13_statement 109 = .ok (.aload_n 0, 1) := by decide +kernel
theorem dX13_statement_110 : decode cX13_statement 110 = .ok (.ldc_w 320, 3) := by decide +kernel
theorem dX13_statement_113 : decode cX13_statement 113 = .ok (.invokevirtual 264, 3) := by decide +kernel
theorem dX13_statement_116 : decode cX13_statement 116 = .ok (.ifCond .ne 33, 3) := by decide +kernel
theorem dX13_statement_119 : decode cX13_statement 119 = .ok (.aload_n 0, 1) := by decide +kernel
theorem dX13_statement_120 : decode cX13_statement 120 = .ok (.ldc_w 322, 3) := by decide +kernel
theorem dX13_statement_123 : decode cX13_statement 123 = .ok (.invokevirtual 264, 3) := by decide +kernel
theorem dX13_statement_126 : decode cX13_statement 126 = .ok (.ifCond .ne 23, 3) := by decide +kernel
theorem dX13_statement_129 : decode cX13_statement 129 = .ok (.aload_n 0, 1) := by decide +kernel
theorem dX13_statement_130 : decode cX13_statement 130 = .ok (.ldc_w 324, 3) := by decide +kernel
theorem dX13_statement_133 : decode cX13_statement 133 = .ok (.invokevirtual 264, 3) := by decide +kernel
theorem dX13_statement_136 : decode cX13_statement 136 = .ok (.ifCond .ne 13, 3) := by decide +kernel
theorem dX13_statement_139 : decode cX13_statement 139 = .ok (.aload_n 0, 1) := by decide +kernel
theorem dX13_statement_140 : decode cX13_statement 140 = .ok (.ldc_w 326, 3) := by decide +kernel
theorem dX13_statement_143 : decode cX13_statement 143 = .ok (.invokevirtual 264, 3) := by decide +kernel
theorem dX13_statement_146 : decode cX13_statement 146 = .ok (.ifCond .eq 54, 3) := by decide +kernel
theorem dX13_statement_149 : decode cX13_statement 149 = .ok (.aload_n 0, 1) := by decide +kernel
theorem dX13_statement_150 : decode cX13_statement 150 = .ok (.aload_n 0, 1) := by decide +kernel
theorem dX13_statement_151 : decode cX13_statement 151 = .ok (.ldc_w 320, 3) := by decide +kernel
theorem dX13_statement_154 : decode cX13_statement 154 = .ok (.invokevirtual 264, 3) := by decide +kernel
theorem dX13_statement_157 : decode cX13_statement 157 = .ok (.ifCond .eq 7, 3) := by decide +kernel
theorem dX13_statement_160 : decode cX13_statement 160 = .ok (.iconst 0, 1) := by decide +kernel
theorem dX13_statement_161 : decode cX13_statement 161 = .ok (.goto 32, 3) := by decide +kernel
theorem dX13_statement_164 : decode cX13_statement 164 = .ok (.aload_n 0, 1) := by decide +kernel
theorem dX13_statement_165 : decode cX13_statement 165 = .ok (.ldc_w 322, 3) := by decide +kernel
theorem dX13_statement_168 : decode cX13_statement 168 = .ok (.invokevirtual 264, 3) := by decide +kernel
theorem dX13_statement_171 : decode cX13_statement 171 = .ok (.ifCond .eq 7, 3) := by decide +kernel
theorem dX13_statement_174 : decode cX13_statement 174 = .ok (.iconst 1, 1) := by decide +kernel
theorem dX13_statement_175 : decode cX13_statement 175 = .ok (.goto 18, 3) := by decide +kernel
theorem dX13_statement_178 : decode cX13_statement 178 = .ok (.aload_n 0, 1) := by decide +kernel
theorem dX13_statement_179 : decode cX13_statement 179 = .ok (.ldc_w 324, 3) := by decide +kernel
theorem dX13_statement_182 : decode cX13_statement 182 = .ok (.invokevirtual 264, 3) := by decide +kernel
theorem dX13_statement_185 : decode cX13_statement 185 = .ok (.ifCond .eq 7, 3) := by decide +kernel
theorem dX13_statement_188 : decode cX13_statement 188 = .ok (.iconst 2, 1) := by decide +kernel
theorem dX13_statement_189 : decode cX13_statement 189 = .ok (.goto 4, 3) := by decide +kernel
theorem dX13_statement_192 : decode cX13_statement 192 = .ok (.iconst 3, 1) := by decide +kernel
theorem dX13_statement_193 : decode cX13_statement 193 = .ok (.iload_n 1, 1) := by decide +kernel
theorem dX13_statement_194 : decode cX13_statement 194 = .ok (.invokevirtual 328, 3) := by decide +kernel
theorem dX13_statement_197 : decode cX13_statement 197 = .ok (.goto 12, 3) := by decide +kernel
theorem dX13_statement_200 : decode cX13_statement 200 = .ok (.aload_n 0, 1) := by decide +kernel
theorem dX13_statement_201 : decode cX13_statement 201 = .ok (.iconst 1, 1) := by decide +kernel
theorem dX13_statement_202 : decode cX13_statement 202 = .ok (.aload_n 0, 1) := by decide +kernel
theorem dX13_statement_203 : decode cX13_statement 203 = .ok (.getfield 245, 3) := by decide +kernel
theorem dX13_statement_206 : decode cX13_statement 206 = .ok (.invokevirtual 257, 3) := by decide +kernel
theorem dX13_statement_209 : decode cX13_statement 209 = .ok (.return_, 1) := by decide +kernel
set_option maxRecDepth 20000 in
theorem ggX13_reads_X13_takes : GoodIn wsX13_reads wsX13_takes := goodIn_r _ [10, 3, 4, 5, 11, 12, 13, 9, 14, 15, 16, 17, 18, 19, 20, 365, 366, 367, 368, 369, 370, 371, 372, 373, 374, 375, 376, 377, 378] (by decide +kernel) (by decide +kernel)
set_option maxRecDepth 20000 in
theorem gX13_reads_X13_takes : GoodIn wsX13_reads (wsV RX13 254 RX13 yX13_takes wsX13_takes) := goodIn_app (goodIn_of _ (by decide +kernel)) ggX13_reads_X13_takes
set_option maxRecDepth 20000 in
theorem ggX13_reads_X13_statement : GoodIn wsX13_reads wsX13_statement := goodIn_r _ [24, 4, 25, 26, 27, 9, 28, 3, 11, 29, 30, 31, 32, 33, 34, 35, 36, 37, 38, 39, 40, 41, 42, 43, 44, 45, 46, 47, 48, 49, 50, 51, 52, 53, 54, 55, 56, 57, 58, 59, 60, 61, 62, 63, 64, 65, 66, 67, 68, 69, 70, 71, 72, 73, 74, 75, 76, 77, 78, 79, 80, 81, 82, 83, 1, 84, 85, 86, 87, 88, 89, 90, 91, 92, 93, 94, 95, 5, 96, 97, 98, 99, 6, 7, 8, 10, 12, 13, 14, 15, 16, 17, 18, 19, 20, 100, 101, 102, 103, 2, 104, 105, 106, 107, 108, 109, 110, 111, 112, 113, 114, 115, 116, 117, 118, 119, 120, 121, 122, 123, 124, 125, 126, 127, 128, 129, 130, 131, 132, 133, 134, 135, 136, 137, 138, 139, 140, 141, 142, 143, 144, 145, 146, 147, 148, 149, 150, 151, 152, 153, 154, 155, 156, 157, 158, 159, 160, 161, 162, 163, 164, 165, 166, 167, 168, 169, 170, 171, 172, 173, 174, 175, 176, 177, 178, 179, 180, 181, 182, 183, 184, 185, 186, 187, 188, 189, 190, 191, 192, 193, 194, 195, 196, 197, 198, 199, 200, 201, 202, 203, 204, 205, 206, 207, 208, 209, 210, 211, 212, 213, 214, 215, 216, 217, 218, 219, 220, 221, 222, 223, 224, 225, 226, 227, 228, 229, 230, 231, 232, 233, 234, 235, 236, 237, 238, 239, 240, 241, 242, 243, 244, 245, 246, 247, 248, 249, 250, 251, 252, 253, 254, 255, 256, 257, 258, 259, 260, 261, 262, 263, 264, 265, 266, 267, 268, 269, 270, 271, 272, 273, 274, 275, 276, 277, 278, 279, 280, 281, 282, 283, 284, 285, 286, 287, 288, 289, 290, 291, 292, 293, 294, 295, 296, 297, 298, 299, 300, 301, 302, 303, 304, 305, 306, 307, 308, 309, 310, 311, 312, 313, 314, 315, 316, 317, 318, 319, 320, 321, 322, 323, 324, 325, 326, 327, 328, 329, 330, 331, 332, 333, 334, 335, 336, 337, 338, 339, 340, 341, 342, 343, 344, 345, 346, 347, 348, 349, 350, 351, 352, 353, 354, 355, 356, 357, 358, 359, 360, 361, 362, 363, 364, 365, 366, 367, 368, 369, 370, 371, 372, 373, 374, 375, 376, 377, 378, 379, 380, 381, 382, 383, 384, 385, 386, 387, 388, 389, 390, 391, 392, 393, 394] (by decide +kernel) (by decide +kernel)
set_option maxRecDepth 20000 in
theorem gX13_reads_X13_statement : GoodIn wsX13_reads (wsV RX13 332 RX13 yX13_statement wsX13_statement) := goodIn_app (goodIn_of _ (by decide +kernel)) ggX13_reads_X13_statement
theorem dX13_reads_0 : decode cX13_reads 0 = .ok (.aload_n 0, 1) := by decide +kernel
theorem dX13_reads_1 : decode cX13_reads 1 = .ok (.iconst 0, 1) := by decide +kernel
theorem dX13_reads_2 : decode cX13_reads 2 = .ok (.putfield 236, 3) := by decide +kernel
theorem dX13_reads_5 : decode cX13_reads 5 = .ok (.aload_n 0, 1) := by decide +kernel
theorem dX13_reads_6 : decode cX13_reads 6 = .ok (.iconst (-1), 1) := by decide +kernel
theorem dX13_reads_7 : decode cX13_reads 7 = .ok (.putfield 239, 3) := by decide +kernel
theorem dX13_reads_10 : decode cX13_reads 10 = .ok (.aload_n 0, 1) := by decide +kernel
theorem dX13_reads_11 : decode cX13_reads 11 = .ok (.iconst 0, 1) := by decide +kernel
theorem dX13_reads_12 : decode cX13_reads 12 = .ok (.putfield 242, 3) := by decide +kernel
theorem dX13_reads_15 : decode cX13_reads 15 = .ok (.iconst 0, 1) := by decide +kernel
theorem dX13_reads_16 : decode cX13_reads 16 = .ok (.istore_n 2, 1) := by decide +kernel
theorem dX13_reads_17 : decode cX13_reads 17 = .ok (.aload_n 0, 1) := by decide +kernel
theorem dX13_reads_18 : decode cX13_reads 18 = .ok (.invokevirtual 254, 3) := by decide +kernel
theorem dX13_reads_21 : decode cX13_reads 21 = .ok (.aload_n 0, 1) := by decide +kernel
theorem dX13_reads_22 : decode cX13_reads 22 = .ok (.getfield 236, 3) := by decide +kernel
theorem dX13_reads_25 : decode cX13_reads 25 = .ok (.ifCond .ne 36, 3) := by decide +kernel
theorem dX13_reads_28 : decode cX13_reads 28 = .ok (.aload_n 0, 1) := by decide +kernel
theorem dX13_reads_29 : decode cX13_reads 29 = .ok (.getfield 245, 3) := by decide +kernel
theorem dX13_reads_32 : decode cX13_reads 32 = .ok (.aload_n 0, 1) := by decide +kernel
theorem dX13_reads_33 : decode cX13_reads 33 = .ok (.getfield 218, 3) := by decide +kernel
theorem dX13_reads_36 : decode cX13_reads 36 = .ok (.if_icmp .ge 25, 3) := by decide +kernel
theorem dX13_reads_39 : decode cX13_reads 39 = .ok (.aload_n 0, 1) := by decide +kernel
theorem dX13_reads_40 : decode cX13_reads 40 = .ok (.iload_n 1, 1) := by decide +kernel
theorem dX13_reads_41 : decode cX13_reads 41 = .ok (.invokevirtual 332, 3) := by decide +kernel
theorem dX13_reads_44 : decode cX13_reads 44 = .ok (.iinc 2 1, 3) := by decide +kernel
theorem dX13_reads_47 : decode cX13_reads 47 = .ok (.aload_n 0, 1) := by decide +kernel
theorem dX13_reads_48 : decode cX13_reads 48 = .ok (.getfield 236, 3) := by decide +kernel
theorem dX13_reads_51 : decode cX13_reads 51 = .ok (.ifCond .ne (-30), 3) := by decide +kernel
theorem dX13_reads_54 : decode cX13_reads 54 = .ok (.aload_n 0, 1) := by decide +kernel
theorem dX13_reads_55 : decode cX13_reads 55 = .ok (.invokevirtual 254, 3) := by decide +kernel
theorem dX13_reads_58 : decode cX13_reads 58 = .ok (.goto (-37), 3) := by decide +kernel
theorem dX13_reads_61 : decode cX13_reads 61 = .ok (.iload_n 2, 1) := by decide +kernel
theorem dX13_reads_62 : decode cX13_reads 62 = .ok (.ireturn, 1) := by decide +kernel
set_option maxRecDepth 20000 in
theorem ggX13_tries_X13_reads : GoodIn wsX13_tries wsX13_reads := goodIn_r _ [8, 1, 9, 10, 11, 12, 13, 14, 15, 7, 16, 17, 18, 19, 20, 21, 22, 23, 24, 25, 26, 27, 28, 29, 30, 31, 32, 33, 34, 35, 36, 37, 38, 39, 40, 41, 42, 43, 44, 45, 46, 47, 48, 49, 50, 51, 52, 53, 54, 55, 56, 57, 58, 59, 60, 61, 62, 63, 64, 65, 66, 67, 68, 69, 70, 71, 72, 73, 74, 75, 76, 77, 78, 79, 80, 81, 82, 83, 84, 85, 86, 87, 88, 89, 90, 91, 92, 2, 93, 94, 95, 96, 97, 98, 99, 100, 101, 102, 103, 104, 105, 106, 107, 108, 109, 110, 111, 112, 113, 114, 115, 116, 117, 118, 119, 120, 121, 122, 123, 124, 125, 126, 127, 128, 129, 130, 131, 132, 133, 134, 135, 136, 137, 138, 139, 140, 141, 142, 143, 144, 145, 146, 147, 148, 149, 150, 151, 152, 153, 154, 155, 156, 157, 158, 159, 160, 161, 162, 163, 164, 165, 166, 167, 168, 169, 170, 171, 172, 173, 174, 175, 176, 177, 178, 179, 180, 181, 182, 183, 184, 185, 186, 187, 188, 189, 190, 191, 192, 193, 194, 195, 196, 197, 198, 199, 200, 201, 202, 203, 204, 205, 206, 207, 208, 209, 210, 211, 212, 213, 214, 215, 216, 217, 218, 219, 220, 221, 222, 223, 224, 225, 226, 227, 228, 229, 230, 231, 232, 233, 234, 235, 236, 237, 238, 239, 240, 241, 242, 243, 244, 245, 246, 247, 248, 249, 250, 251, 252, 253, 254, 255, 256, 257, 258, 259, 260, 261, 262, 263, 264, 265, 266, 267, 268, 269, 270, 271, 272, 273, 274, 275, 276, 277, 278, 279, 280, 281, 282, 283, 284, 285, 286, 287, 288, 289, 290, 291, 292, 293, 294, 295, 296, 297, 298, 299, 300, 301, 302, 303, 304, 305, 306, 307, 308, 309, 310, 311, 312, 313, 314, 315, 316, 317, 318, 319, 320, 321, 322, 323, 324, 325, 326, 327, 328, 329, 330, 331, 332, 333, 334, 335, 336, 337, 338, 339, 340, 341, 342, 343, 344, 345, 346, 347, 348, 349, 350, 351, 352, 353, 354, 355, 356, 357, 358, 359, 360, 361, 362, 363, 364, 365, 366, 367, 368, 369, 370, 371, 372, 373, 374, 375, 376, 377, 378, 379, 380, 381, 382, 383, 384, 385, 386, 387, 388, 389, 390, 391, 392, 393, 394, 395, 396, 397, 398, 399] (by decide +kernel) (by decide +kernel)
set_option maxRecDepth 20000 in
theorem gX13_tries_X13_reads : GoodIn wsX13_tries (wsV RX13 335 RX13 yX13_reads wsX13_reads) := goodIn_app (goodIn_of _ (by decide +kernel)) ggX13_tries_X13_reads
theorem dX13_tries_0 : decode cX13_tries 0 = .ok (.aload_n 0, 1) := by decide +kernel
theorem dX13_tries_1 : decode cX13_tries 1 = .ok (.iconst 0, 1) := by decide +kernel
theorem dX13_tries_2 : decode cX13_tries 2 = .ok (.invokevirtual 335, 3) := by decide +kernel
theorem dX13_tries_5 : decode cX13_tries 5 = .ok (.istore_n 1, 1) := by decide +kernel
theorem dX13_tries_6 : decode cX13_tries 6 = .ok (.aload_n 0, 1) := by decide +kernel
theorem dX13_tries_7 : decode cX13_tries 7 = .ok (.getfield 236, 3) := by decide +kernel
theorem dX13_tries_10 : decode cX13_tries 10 = .ok (.ifCond .ne 35, 3) := by decide +kernel
theorem dX13_tries_13 : decode cX13_tries 13 = .ok (.iconst 0, 1) := by decide +kernel
theorem dX13_tries_14 : decode cX13_tries 14 = .ok (.istore_n 2, 1) := by decide +kernel
theorem dX13_tries_15 : decode cX13_tries 15 = .ok (.iload_n 2, 1) := by decide +kernel
theorem dX13_tries_16 : decode cX13_tries 16 = .ok (.bipush 8, 2) := by decide +kernel
theorem dX13_tries_18 : decode cX13_tries 18 = .ok (.if_icmp .ge 21, 3) := by decide +kernel
theorem dX13_tries_21 : decode cX13_tries 21 = .ok (.aload_n 0, 1) := by decide +kernel
theorem dX13_tries_22 : decode cX13_tries 22 = .ok (.getfield 32, 3) := by decide +kernel
theorem dX13_tries_25 : decode cX13_tries 25 = .ok (.iload_n 2, 1) := by decide +kernel
theorem dX13_tries_26 : decode cX13_tries 26 = .ok (.aload_n 0, 1) := by decide +kernel
theorem dX13_tries_27 : decode cX13_tries 27 = .ok (.getfield 29, 3) := by decide +kernel
theorem dX13_tries_30 : decode cX13_tries 30 = .ok (.iload_n 2, 1) := by decide +kernel
theorem dX13_tries_31 : decode cX13_tries 31 = .ok (.aaload, 1) := by decide +kernel
theorem dX13_tries_32 : decode cX13_tries 32 = .ok (.aastore, 1) := by decide +kernel
theorem dX13_tries_33 : decode cX13_tries 33 = .ok (.iinc 2 1, 3) := by decide +kernel
theorem dX13_tries_36 : decode cX13_tries 36 = .ok (.goto (-21), 3) := by decide +kernel
theorem dX13_tries_39 : decode cX13_tries 39 = .ok (.aload_n 0, 1) := by decide +kernel
theorem dX13_tries_40 : decode cX13_tries 40 = .ok (.iconst 1, 1) := by decide +kernel
theorem dX13_tries_41 : decode cX13_tries 41 = .ok (.invokevirtual 335, 3) := by decide +kernel
theorem dX13_tries_44 : decode cX13_tries 44 = .ok (.istore_n 1, 1) := by decide +kernel
theorem dX13_tries_45 : decode cX13_tries 45 = .ok (.iload_n 1, 1) := by decide +kernel
theorem dX13_tries_46 : decode cX13_tries 46 = .ok (.ireturn, 1) := by decide +kernel
set_option maxRecDepth 20000 in
theorem ggX13_errorKind_X13_tries : GoodIn wsX13_errorKind wsX13_tries := goodIn_r _ [7, 2, 8, 9, 10, 11, 12, 6, 13, 14, 15, 16, 17, 18, 19, 20, 21, 22, 23, 24, 25, 26, 27, 28, 29, 30, 31, 32, 33, 34, 35, 36, 37, 38, 39, 40, 41, 42, 43, 44, 45, 46, 47, 48, 49, 50, 51, 52, 53, 54, 55, 56, 57, 58, 59, 60, 61, 62, 63, 64, 65, 66, 67, 68, 69, 70, 71, 72, 73, 74, 75, 76, 77, 78, 79, 80, 81, 82, 83, 84, 85, 86, 87, 88, 89, 90, 91, 92, 93, 94, 95, 96, 97, 98, 99, 100, 101, 102, 103, 104, 105, 106, 107, 108, 109, 110, 111, 112, 113, 114, 115, 116, 117, 118, 119, 120, 121, 122, 123, 124, 125, 126, 127, 128, 129, 130, 131, 132, 133, 134, 135, 136, 137, 138, 139, 140, 141, 142, 143, 144, 145, 146, 147, 148, 149, 150, 151, 152, 153, 154, 155, 156, 157, 158, 159, 160, 161, 162, 163, 164, 165, 166, 167, 168, 169, 170, 171, 172, 173, 174, 175, 176, 177, 178, 179, 180, 181, 182, 183, 184, 185, 186, 187, 188, 189, 190, 191, 192, 193, 194, 195, 196, 197, 198, 199, 200, 201, 202, 203, 204, 205, 206, 207, 208, 209, 210, 211, 212, 213, 214, 215, 216, 217, 218, 219, 220, 221, 222, 223, 224, 225, 226, 227, 228, 229, 230, 231, 232, 233, 234, 235, 236, 237, 238, 239, 240, 241, 242, 243, 244, 245, 246, 247, 248, 249, 250, 251, 252, 253, 254, 255, 256, 257, 258, 259, 260, 261, 262, 263, 264, 265, 266, 267, 268, 269, 270, 271, 272, 273, 274, 275, 276, 277, 278, 279, 280, 281, 282, 283, 284, 285, 286, 287, 288, 289, 290, 291, 292, 293, 294, 295, 296, 297, 298, 299, 300, 301, 302, 303, 304, 305, 306, 307, 308, 309, 310, 311, 312, 313, 314, 315, 316, 317, 318, 319, 320, 321, 322, 323, 324, 325, 326, 327, 328, 329, 330, 331, 332, 333, 334, 335, 336, 337, 338, 339, 340, 341, 342, 343, 344, 345, 346, 347, 348, 349, 350, 351, 352, 353, 354, 355, 356, 357, 358, 359, 360, 361, 362, 363, 364, 365, 366, 367, 368, 369, 370, 371, 372, 373, 374, 375, 376, 377, 378, 379, 380, 381, 382, 383, 384, 385, 386, 387, 388, 389, 390, 391, 392, 393, 394, 395, 396, 397, 398, 399, 400, 401, 402, 403, 404] (by decide +kernel) (by decide +kernel)
set_option maxRecDepth 20000 in
theorem gX13_errorKind_X13_tries : GoodIn wsX13_errorKind (wsV RX13 339 RX13 yX13_tries wsX13_tries) := goodIn_app (goodIn_of _ (by decide +kernel)) ggX13_errorKind_X13_tries
theorem dX13_errorKind_0 : decode cX13_errorKind 0 = .ok (.aload_n 0, 1) := by decide +kernel
theorem dX13_errorKind_1 : decode cX13_errorKind 1 = .ok (.iconst 0, 1) := by decide +kernel
theorem dX13_errorKind_2 : decode cX13_errorKind 2 = .ok (.putfield 1, 3) := by decide +kernel
theorem dX13_errorKind_5 : decode cX13_errorKind 5 = .ok (.aload_n 0, 1) := by decide +kernel
theorem dX13_errorKind_6 : decode cX13_errorKind 6 = .ok (.invokevirtual 339, 3) := by decide +kernel
theorem dX13_errorKind_9 : decode cX13_errorKind 9 = .ok (.istore_n 1, 1) := by decide +kernel
theorem dX13_errorKind_10 : decode cX13_errorKind 10 = .ok (.aload_n 0, 1) := by decide +kernel
theorem dX13_errorKind_11 : decode cX13_errorKind 11 = .ok (.getfield 236, 3) := by decide +kernel
theorem dX13_errorKind_14 : decode cX13_errorKind 14 = .ok (.ireturn, 1) := by decide +kernel
set_option maxRecDepth 20000 in
theorem ggX13_errorPlace_X13_tries : GoodIn wsX13_errorPlace wsX13_tries := goodIn_r _ [7, 8, 9, 10, 11, 12, 13, 6, 14, 2, 15, 16, 17, 18, 19, 20, 21, 22, 23, 24, 25, 26, 27, 28, 29, 30, 31, 32, 33, 34, 35, 36, 37, 38, 39, 40, 41, 42, 43, 44, 45, 46, 47, 48, 49, 50, 51, 52, 53, 54, 55, 56, 57, 58, 59, 60, 61, 62, 63, 64, 65, 66, 67, 68, 69, 70, 71, 72, 73, 74, 75, 76, 77, 78, 79, 80, 81, 82, 83, 84, 85, 86, 87, 88, 89, 90, 91, 92, 93, 94, 95, 96, 97, 98, 99, 100, 101, 102, 103, 104, 105, 106, 107, 108, 109, 110, 111, 112, 113, 114, 115, 116, 117, 118, 119, 120, 121, 122, 123, 124, 125, 126, 127, 128, 129, 130, 131, 132, 133, 134, 135, 136, 137, 138, 139, 140, 141, 142, 143, 144, 145, 146, 147, 148, 149, 150, 151, 152, 153, 154, 155, 156, 157, 158, 159, 160, 161, 162, 163, 164, 165, 166, 167, 168, 169, 170, 171, 172, 173, 174, 175, 176, 177, 178, 179, 180, 181, 182, 183, 184, 185, 186, 187, 188, 189, 190, 191, 192, 193, 194, 195, 196, 197, 198, 199, 200, 201, 202, 203, 204, 205, 206, 207, 208, 209, 210, 211, 212, 213, 214, 215, 216, 217, 218, 219, 220, 221, 222, 223, 224, 225, 226, 227, 228, 229, 230, 231, 232, 233, 234, 235, 236, 237, 238, 239, 240, 241, 242, 243, 244, 245, 246, 247, 248, 249, 250, 251, 252, 253, 254, 255, 256, 257, 258, 259, 260, 261, 262, 263, 264, 265, 266, 267, 268, 269, 270, 271, 272, 273, 274, 275, 276, 277, 278, 279, 280, 281, 282, 283, 284, 285, 286, 287, 288, 289, 290, 291, 292, 293, 294, 295, 296, 297, 298, 299, 300, 301, 302, 303, 304, 305, 306, 307, 308, 309, 310, 311, 312, 313, 314, 315, 316, 317, 318, 319, 320, 321, 322, 323, 324, 325, 326, 327, 328, 329, 330, 331, 332, 333, 334, 335, 336, 337, 338, 339, 340, 341, 342, 343, 344, 345, 346, 347, 348, 349, 350, 351, 352, 353, 354, 355, 356, 357, 358, 359, 360, 361, 362, 363, 364, 365, 366, 367, 368, 369, 370, 371, 372, 373, 374, 375, 376, 377, 378, 379, 380, 381, 382, 383, 384, 385, 386, 387, 388, 389, 390, 391, 392, 393, 394, 395, 396, 397, 398, 399, 400, 401, 402, 403, 404] (by decide +kernel) (by decide +kernel)
set_option maxRecDepth 20000 in
theorem gX13_errorPlace_X13_tries : GoodIn wsX13_errorPlace (wsV RX13 339 RX13 yX13_tries wsX13_tries) := goodIn_app (goodIn_of _ (by decide +kernel)) ggX13_errorPlace_X13_tries
theorem dX13_errorPlace_0 : decode cX13_errorPlace 0 = .ok (.aload_n 0, 1) := by decide +kernel
theorem dX13_errorPlace_1 : decode cX13_errorPlace 1 = .ok (.iconst 0, 1) := by decide +kernel
theorem dX13_errorPlace_2 : decode cX13_errorPlace 2 = .ok (.putfield 1, 3) := by decide +kernel
theorem dX13_errorPlace_5 : decode cX13_errorPlace 5 = .ok (.aload_n 0, 1) := by decide +kernel
theorem dX13_errorPlace_6 : decode cX13_errorPlace 6 = .ok (.invokevirtual 339, 3) := by decide +kernel
theorem dX13_errorPlace_9 : decode cX13_errorPlace 9 = .ok (.istore_n 1, 1) := by decide +kernel
theorem dX13_errorPlace_10 : decode cX13_errorPlace 10 = .ok (.aload_n 0, 1) := by decide +kernel
theorem dX13_errorPlace_11 : decode cX13_errorPlace 11 = .ok (.getfield 239, 3) := by decide +kernel
theorem dX13_errorPlace_14 : decode cX13_errorPlace 14 = .ok (.ireturn, 1) := by decide +kernel
set_option maxRecDepth 20000 in
theorem ggX13_run_X13_tries : GoodIn wsX13_run wsX13_tries := goodIn_r _ [8, 1, 3, 2, 9, 10, 11, 7, 12, 13, 14, 15, 16, 17, 18, 19, 20, 21, 22, 23, 24, 25, 26, 27, 28, 29, 30, 31, 32, 33, 34, 35, 36, 37, 38, 39, 40, 41, 42, 43, 44, 45, 46, 47, 48, 49, 50, 51, 52, 53, 54, 55, 56, 57, 58, 59, 60, 61, 62, 63, 64, 65, 66, 67, 68, 69, 70, 71, 72, 73, 74, 75, 76, 77, 78, 79, 80, 81, 82, 83, 84, 85, 86, 87, 88, 89, 90, 91, 92, 93, 94, 95, 96, 97, 98, 99, 100, 101, 102, 103, 104, 105, 106, 107, 108, 109, 110, 111, 112, 113, 114, 115, 116, 117, 118, 119, 120, 121, 122, 123, 124, 125, 126, 127, 128, 129, 130, 131, 132, 133, 134, 135, 136, 137, 138, 139, 140, 141, 142, 143, 144, 145, 146, 147, 148, 149, 150, 151, 152, 153, 154, 155, 156, 157, 158, 159, 160, 161, 162, 163, 164, 165, 166, 167, 168, 169, 170, 171, 172, 173, 174, 175, 176, 177, 178, 179, 180, 181, 182, 183, 184, 185, 186, 187, 188, 189, 190, 191, 192, 193, 194, 195, 196, 197, 198, 199, 200, 201, 202, 203, 204, 205, 206, 207, 208, 209, 210, 211, 212, 213, 214, 215, 216, 217, 218, 219, 220, 221, 222, 223, 224, 225, 226, 227, 228, 229, 230, 231, 232, 233, 234, 235, 236, 237, 238, 239, 240, 241, 242, 243, 244, 245, 246, 247, 248, 249, 250, 251, 252, 253, 254, 255, 256, 257, 258, 259, 260, 261, 262, 263, 264, 265, 266, 267, 268, 269, 270, 271, 272, 273, 274, 275, 276, 277, 278, 279, 280, 281, 282, 283, 284, 285, 286, 287, 288, 289, 290, 291, 292, 293, 294, 295, 296, 297, 298, 299, 300, 301, 302, 303, 304, 305, 306, 307, 308, 309, 310, 311, 312, 313, 314, 315, 316, 317, 318, 319, 320, 321, 322, 323, 324, 325, 326, 327, 328, 329, 330, 331, 332, 333, 334, 335, 336, 337, 338, 339, 340, 341, 342, 343, 344, 345, 346, 347, 348, 349, 350, 351, 352, 353, 354, 355, 356, 357, 358, 359, 360, 361, 362, 363, 364, 365, 366, 367, 368, 369, 370, 371, 372, 373, 379, 380, 381, 382, 383, 384, 385, 386, 387, 388, 389, 390, 391, 392, 393, 394, 395, 396, 397, 398, 399, 400, 401, 402, 403, 404, 405, 406, 407, 408] (by decide +kernel) (by decide +kernel)
set_option maxRecDepth 20000 in
theorem gX13_run_X13_tries : GoodIn wsX13_run (wsV RX13 339 RX13 yX13_tries wsX13_tries) := goodIn_app (goodIn_of _ (by decide +kernel)) ggX13_run_X13_tries
set_option maxRecDepth 20000 in
theorem ggX13_run_X13_passes : GoodIn wsX13_run wsX13_passes := goodIn_r _ [377, 378, 379, 380, 381, 382, 383, 384, 385, 386, 387, 388, 389, 390, 391, 392] (by decide +kernel) (by decide +kernel)
set_option maxRecDepth 20000 in
theorem gX13_run_X13_passes : GoodIn wsX13_run (wsV RX13 55 RX13 yX13_passes wsX13_passes) := goodIn_app (goodIn_of _ (by decide +kernel)) ggX13_run_X13_passes
theorem dX13_run_0 : decode cX13_run 0 = .ok (.aload_n 0, 1) := by decide +kernel
theorem dX13_run_1 : decode cX13_run 1 = .ok (.invokevirtual 339, 3) := by decide +kernel
theorem dX13_run_4 : decode cX13_run 4 = .ok (.istore_n 1, 1) := by decide +kernel
theorem dX13_run_5 : decode cX13_run 5 = .ok (.aload_n 0, 1) := by decide +kernel
theorem dX13_run_6 : decode cX13_run 6 = .ok (.aload_n 0, 1) := by decide +kernel
theorem dX13_run_7 : decode cX13_run 7 = .ok (.getfield 236, 3) := by decide +kernel
theorem dX13_run_10 : decode cX13_run 10 = .ok (.ifCond .ne 7, 3) := by decide +kernel
theorem dX13_run_13 : decode cX13_run 13 = .ok (.iconst 1, 1) := by decide +kernel
theorem dX13_run_14 : decode cX13_run 14 = .ok (.goto 4, 3) := by decide +kernel
theorem dX13_run_17 : decode cX13_run 17 = .ok (.iconst 0, 1) := by decide +kernel
theorem dX13_run_18 : decode cX13_run 18 = .ok (.iconst 1, 1) := by decide +kernel
theorem dX13_run_19 : decode cX13_run 19 = .ok (.iconst 1, 1) := by decide +kernel
theorem dX13_run_20 : decode cX13_run 20 = .ok (.invokevirtual 55, 3) := by decide +kernel
theorem dX13_run_23 : decode cX13_run 23 = .ok (.ifCond .ne 5, 3) := by decide +kernel
theorem dX13_run_26 : decode cX13_run 26 = .ok (.iconst 0, 1) := by decide +kernel
theorem dX13_run_27 : decode cX13_run 27 = .ok (.ireturn, 1) := by decide +kernel
theorem dX13_run_28 : decode cX13_run 28 = .ok (.iconst 0, 1) := by decide +kernel
theorem dX13_run_29 : decode cX13_run 29 = .ok (.istore_n 2, 1) := by decide +kernel
theorem dX13_run_30 : decode cX13_run 30 = .ok (.iload_n 2, 1) := by decide +kernel
theorem dX13_run_31 : decode cX13_run 31 = .ok (.bipush 8, 2) := by decide +kernel
theorem dX13_run_33 : decode cX13_run 33 = .ok (.if_icmp .ge 21, 3) := by decide +kernel
theorem dX13_run_36 : decode cX13_run 36 = .ok (.aload_n 0, 1) := by decide +kernel
theorem dX13_run_37 : decode cX13_run 37 = .ok (.getfield 29, 3) := by decide +kernel
theorem dX13_run_40 : decode cX13_run 40 = .ok (.iload_n 2, 1) := by decide +kernel
theorem dX13_run_41 : decode cX13_run 41 = .ok (.aload_n 0, 1) := by decide +kernel
theorem dX13_run_42 : decode cX13_run 42 = .ok (.getfield 32, 3) := by decide +kernel
theorem dX13_run_45 : decode cX13_run 45 = .ok (.iload_n 2, 1) := by decide +kernel
theorem dX13_run_46 : decode cX13_run 46 = .ok (.aaload, 1) := by decide +kernel
theorem dX13_run_47 : decode cX13_run 47 = .ok (.aastore, 1) := by decide +kernel
theorem dX13_run_48 : decode cX13_run 48 = .ok (.iinc 2 1, 3) := by decide +kernel
theorem dX13_run_51 : decode cX13_run 51 = .ok (.goto (-21), 3) := by decide +kernel
theorem dX13_run_54 : decode cX13_run 54 = .ok (.iload_n 1, 1) := by decide +kernel
theorem dX13_run_55 : decode cX13_run 55 = .ok (.ireturn, 1) := by decide +kernel
theorem dX13_areSame_0 : decode cX13_areSame 0 = .ok (.aload_n 0, 1) := by decide +kernel
theorem dX13_areSame_1 : decode cX13_areSame 1 = .ok (.arraylength, 1) := by decide +kernel
theorem dX13_areSame_2 : decode cX13_areSame 2 = .ok (.aload_n 1, 1) := by decide +kernel
theorem dX13_areSame_3 : decode cX13_areSame 3 = .ok (.arraylength, 1) := by decide +kernel
theorem dX13_areSame_4 : decode cX13_areSame 4 = .ok (.if_icmp .eq 5, 3) := by decide +kernel
theorem dX13_areSame_7 : decode cX13_areSame 7 = .ok (.iconst 0, 1) := by decide +kernel
theorem dX13_areSame_8 : decode cX13_areSame 8 = .ok (.ireturn, 1) := by decide +kernel
theorem dX13_areSame_9 : decode cX13_areSame 9 = .ok (.iconst 0, 1) := by decide +kernel
theorem dX13_areSame_10 : decode cX13_areSame 10 = .ok (.istore_n 2, 1) := by decide +kernel
theorem dX13_areSame_11 : decode cX13_areSame 11 = .ok (.iload_n 2, 1) := by decide +kernel
theorem dX13_areSame_12 : decode cX13_areSame 12 = .ok (.aload_n 0, 1) := by decide +kernel
theorem dX13_areSame_13 : decode cX13_areSame 13 = .ok (.arraylength, 1) := by decide +kernel
theorem dX13_areSame_14 : decode cX13_areSame 14 = .ok (.if_icmp .ge 20, 3) := by decide +kernel
theorem dX13_areSame_17 : decode cX13_areSame 17 = .ok (.aload_n 0, 1) := by decide +kernel
theorem dX13_areSame_18 : decode cX13_areSame 18 = .ok (.iload_n 2, 1) := by decide +kernel
theorem dX13_areSame_19 : decode cX13_areSame 19 = .ok (.iaload, 1) := by decide +kernel
theorem dX13_areSame_20 : decode cX13_areSame 20 = .ok (.aload_n 1, 1) := by decide +kernel
theorem dX13_areSame_21 : decode cX13_areSame 21 = .ok (.iload_n 2, 1) := by decide +kernel
theorem dX13_areSame_22 : decode cX13_areSame 22 = .ok (.iaload, 1) := by decide +kernel
theorem dX13_areSame_23 : decode cX13_areSame 23 = .ok (.if_icmp .eq 5, 3) := by decide +kernel
theorem dX13_areSame_26 : decode cX13_areSame 26 = .ok (.iconst 0, 1) := by decide +kernel
theorem dX13_areSame_27 : decode cX13_areSame 27 = .ok (.ireturn, 1) := by decide +kernel
theorem dX13_areSame_28 : decode cX13_areSame 28 = .ok (.iinc 2 1, 3) := by decide +kernel
theorem dX13_areSame_31 : decode cX13_areSame 31 = .ok (.goto (-20), 3) := by decide +kernel
theorem dX13_areSame_34 : decode cX13_areSame 34 = .ok (.iconst 1, 1) := by decide +kernel
theorem dX13_areSame_35 : decode cX13_areSame 35 = .ok (.ireturn, 1) := by decide +kernel
set_option maxRecDepth 20000 in
theorem ggX13_failsOfRuns_X13_runsOf : GoodIn wsX13_failsOfRuns wsX13_runsOf := goodIn_r _ [8, 9, 10, 11, 12, 13, 14, 7, 15, 16, 17, 18, 19, 20, 21, 22, 23, 24, 25, 26, 27, 28, 29, 30, 31, 32, 33, 34, 35, 36, 37, 38, 39, 40, 41, 42, 43, 44, 45, 46, 47, 48, 49, 50, 51, 52, 53, 54, 55, 56, 57, 58, 59, 60, 61, 62, 63, 64, 65, 66, 67, 68, 69, 70, 71, 72, 73, 74, 75, 76, 77, 78, 79, 80, 81, 82, 83, 84, 85, 86, 87, 88, 89, 90, 91, 92, 93, 94, 95, 96, 97, 98, 99, 100, 101, 102, 103, 104, 105, 106, 107, 108, 109, 110, 111, 112, 113, 114, 115, 116, 117, 118, 119, 120, 121, 122, 123, 124, 125, 126, 127, 128, 129, 130, 131, 132, 133, 134, 135, 136, 137, 138, 139, 140, 141, 142, 143, 144, 145, 146, 147, 148, 149, 150, 151, 152, 153, 1, 154, 155, 156, 157, 158, 159, 160, 175, 176, 177, 178, 161, 162, 163, 164, 165, 166, 167, 168, 169, 170, 171, 172, 173, 174] (by decide +kernel) (by decide +kernel)
set_option maxRecDepth 20000 in
theorem gX13_failsOfRuns_X13_runsOf : GoodIn wsX13_failsOfRuns (wsV RX13 138 RX13 yX13_runsOf wsX13_runsOf) := goodIn_app (goodIn_of _ (by decide +kernel)) ggX13_failsOfRuns_X13_runsOf
set_option maxRecDepth 20000 in
theorem ggX13_failsOfRuns_Jx4a65c_size_8abf5 : GoodIn wsX13_failsOfRuns wsJx4a65c_size_8abf5 := goodIn_r _ [116, 61, 175, 176, 177] (by decide +kernel) (by decide +kernel)
set_option maxRecDepth 20000 in
theorem gX13_failsOfRuns_Jx4a65c_size_8abf5_f79Jx4a65c : GoodIn wsX13_failsOfRuns (va_wsF RX13 79 RJx4a65c ⟨"java/util/List", "size", "()I"⟩ yJx4a65c_size_8abf5 wsJx4a65c_size_8abf5) := goodIn_app (goodIn_of _ (by decide +kernel)) ggX13_failsOfRuns_Jx4a65c_size_8abf5
set_option maxRecDepth 20000 in
theorem ggX13_failsOfRuns_Jx4a65c_get_915e3 : GoodIn wsX13_failsOfRuns wsJx4a65c_get_915e3 := goodIn_r _ [120, 61, 121, 122, 123, 124, 125, 126, 127, 128, 129, 130, 131, 11, 132, 25, 175, 176, 177] (by decide +kernel) (by decide +kernel)
set_option maxRecDepth 20000 in
theorem gX13_failsOfRuns_Jx4a65c_get_915e3_f85Jx4a65c : GoodIn wsX13_failsOfRuns (va_wsF RX13 85 RJx4a65c ⟨"java/util/List", "get", "(I)Ljava/lang/Object;"⟩ yJx4a65c_get_915e3 wsJx4a65c_get_915e3) := goodIn_app (goodIn_of _ (by decide +kernel)) ggX13_failsOfRuns_Jx4a65c_get_915e3
theorem dX13_failsOfRuns_0 : decode cX13_failsOfRuns 0 = .ok (.iconst 5, 1) := by decide +kernel
theorem dX13_failsOfRuns_1 : decode cX13_failsOfRuns 1 = .ok (.newarray .int, 2) := by decide +kernel
theorem dX13_failsOfRuns_3 : decode cX13_failsOfRuns 3 = .ok (.dup, 1) := by decide +kernel
theorem dX13_failsOfRuns_4 : decode cX13_failsOfRuns 4 = .ok (.iconst 0, 1) := by decide +kernel
theorem dX13_failsOfRuns_5 : decode cX13_failsOfRuns 5 = .ok (.aload_n 0, 1) := by decide +kernel
theorem dX13_failsOfRuns_6 : decode cX13_failsOfRuns 6 = .ok (.getfield 35, 3) := by decide +kernel
theorem dX13_failsOfRuns_9 : decode cX13_failsOfRuns 9 = .ok (.iconst 0, 1) := by decide +kernel
theorem dX13_failsOfRuns_10 : decode cX13_failsOfRuns 10 = .ok (.iaload, 1) := by decide +kernel
theorem dX13_failsOfRuns_11 : decode cX13_failsOfRuns 11 = .ok (.iastore, 1) := by decide +kernel
theorem dX13_failsOfRuns_12 : decode cX13_failsOfRuns 12 = .ok (.dup, 1) := by decide +kernel
theorem dX13_failsOfRuns_13 : decode cX13_failsOfRuns 13 = .ok (.iconst 1, 1) := by decide +kernel
theorem dX13_failsOfRuns_14 : decode cX13_failsOfRuns 14 = .ok (.iconst 1, 1) := by decide +kernel
theorem dX13_failsOfRuns_15 : decode cX13_failsOfRuns 15 = .ok (.iastore, 1) := by decide +kernel
theorem dX13_failsOfRuns_16 : decode cX13_failsOfRuns 16 = .ok (.dup, 1) := by decide +kernel
theorem dX13_failsOfRuns_17 : decode cX13_failsOfRuns 17 = .ok (.iconst 2, 1) := by decide +kernel
theorem dX13_failsOfRuns_18 : decode cX13_failsOfRuns 18 = .ok (.aload_n 0, 1) := by decide +kernel
theorem dX13_failsOfRuns_19 : decode cX13_failsOfRuns 19 = .ok (.getfield 35, 3) := by decide +kernel
theorem dX13_failsOfRuns_22 : decode cX13_failsOfRuns 22 = .ok (.iconst 2, 1) := by decide +kernel
theorem dX13_failsOfRuns_23 : decode cX13_failsOfRuns 23 = .ok (.iaload, 1) := by decide +kernel
theorem dX13_failsOfRuns_24 : decode cX13_failsOfRuns 24 = .ok (.iastore, 1) := by decide +kernel
theorem dX13_failsOfRuns_25 : decode cX13_failsOfRuns 25 = .ok (.dup, 1) := by decide +kernel
theorem dX13_failsOfRuns_26 : decode cX13_failsOfRuns 26 = .ok (.iconst 3, 1) := by decide +kernel
theorem dX13_failsOfRuns_27 : decode cX13_failsOfRuns 27 = .ok (.iconst 0, 1) := by decide +kernel
theorem dX13_failsOfRuns_28 : decode cX13_failsOfRuns 28 = .ok (.iastore, 1) := by decide +kernel
theorem dX13_failsOfRuns_29 : decode cX13_failsOfRuns 29 = .ok (.dup, 1) := by decide +kernel
theorem dX13_failsOfRuns_30 : decode cX13_failsOfRuns 30 = .ok (.iconst 4, 1) := by decide +kernel
theorem dX13_failsOfRuns_31 : decode cX13_failsOfRuns 31 = .ok (.iconst 2, 1) := by decide +kernel
theorem dX13_failsOfRuns_32 : decode cX13_failsOfRuns 32 = .ok (.iastore, 1) := by decide +kernel
theorem dX13_failsOfRuns_33 : decode cX13_failsOfRuns 33 = .ok (.astore_n 3, 1) := by decide +kernel
theorem dX13_failsOfRuns_34 : decode cX13_failsOfRuns 34 = .ok (.aload_n 0, 1) := by decide +kernel
theorem dX13_failsOfRuns_35 : decode cX13_failsOfRuns 35 = .ok (.aload_n 1, 1) := by decide +kernel
theorem dX13_failsOfRuns_36 : decode cX13_failsOfRuns 36 = .ok (.aload_n 3, 1) := by decide +kernel
theorem dX13_failsOfRuns_37 : decode cX13_failsOfRuns 37 = .ok (.invokevirtual 138, 3) := by decide +kernel
theorem dX13_failsOfRuns_40 : decode cX13_failsOfRuns 40 = .ok (.astore 4, 2) := by decide +kernel
theorem dX13_failsOfRuns_42 : decode cX13_failsOfRuns 42 = .ok (.aload_n 0, 1) := by decide +kernel
theorem dX13_failsOfRuns_43 : decode cX13_failsOfRuns 43 = .ok (.aload_n 2, 1) := by decide +kernel
theorem dX13_failsOfRuns_44 : decode cX13_failsOfRuns 44 = .ok (.aload_n 3, 1) := by decide +kernel
theorem dX13_failsOfRuns_45 : decode cX13_failsOfRuns 45 = .ok (.invokevirtual 138, 3) := by decide +kernel
theorem dX13_failsOfRuns_48 : decode cX13_failsOfRuns 48 = .ok (.invokeinterface 79 1, 5) := by decide +kernel
theorem dX13_failsOfRuns_53 : decode cX13_failsOfRuns 53 = .ok (.iconst 1, 1) := by decide +kernel
theorem dX13_failsOfRuns_54 : decode cX13_failsOfRuns 54 = .ok (.if_icmp .gt 7, 3) := by decide +kernel
theorem dX13_failsOfRuns_57 : decode cX13_failsOfRuns 57 = .ok (.iconst 0, 1) := by decide +kernel
theorem dX13_failsOfRuns_58 : decode cX13_failsOfRuns 58 = .ok (.goto 4, 3) := by decide +kernel
theorem dX13_failsOfRuns_61 : decode cX13_failsOfRuns 61 = .ok (.iconst 1, 1) := by decide +kernel
theorem dX13_failsOfRuns_62 : decode cX13_failsOfRuns 62 = .ok (.istore 5, 2) := by decide +kernel
theorem dX13_failsOfRuns_64 : decode cX13_failsOfRuns 64 = .ok (.iconst 0, 1) := by decide +kernel
theorem dX13_failsOfRuns_65 : decode cX13_failsOfRuns 65 = .ok (.istore 6, 2) := by decide +kernel
theorem dX13_failsOfRuns_67 : decode cX13_failsOfRuns 67 = .ok (.iload 6, 2) := by decide +kernel
theorem dX13_failsOfRuns_69 : decode cX13_failsOfRuns 69 = .ok (.aload 4, 2) := by decide +kernel
theorem dX13_failsOfRuns_71 : decode cX13_failsOfRuns 71 = .ok (.invokeinterface 79 1, 5) := by decide +kernel
theorem dX13_failsOfRuns_76 : decode cX13_failsOfRuns 76 = .ok (.iconst 1, 1) := by decide +kernel
theorem dX13_failsOfRuns_77 : decode cX13_failsOfRuns 77 = .ok (.isub, 1) := by decide +kernel
theorem dX13_failsOfRuns_78 : decode cX13_failsOfRuns 78 = .ok (.if_icmp .ge 41, 3) := by decide +kernel
theorem dX13_failsOfRuns_81 : decode cX13_failsOfRuns 81 = .ok (.iload 5, 2) := by decide +kernel
theorem dX13_failsOfRuns_83 : decode cX13_failsOfRuns 83 = .ok (.aload 4, 2) := by decide +kernel
theorem dX13_failsOfRuns_85 : decode cX13_failsOfRuns 85 = .ok (.iload 6, 2) := by decide +kernel
theorem dX13_failsOfRuns_87 : decode cX13_failsOfRuns 87 = .ok (.invokeinterface 85 2, 5) := by decide +kernel
theorem dX13_failsOfRuns_92 : decode cX13_failsOfRuns 92 = .ok (.checkcast 146, 3) := by decide +kernel
theorem dX13_failsOfRuns_95 : decode cX13_failsOfRuns 95 = .ok (.arraylength, 1) := by decide +kernel
theorem dX13_failsOfRuns_96 : decode cX13_failsOfRuns 96 = .ok (.aload_n 0, 1) := by decide +kernel
theorem dX13_failsOfRuns_97 : decode cX13_failsOfRuns 97 = .ok (.getfield 35, 3) := by decide +kernel
theorem dX13_failsOfRuns_100 : decode cX13_failsOfRuns 100 = .ok (.iconst 2, 1) := by decide +kernel
theorem dX13_failsOfRuns_101 : decode cX13_failsOfRuns 101 = .ok (.iaload, 1) := by decide +kernel
theorem dX13_failsOfRuns_102 : decode cX13_failsOfRuns 102 = .ok (.if_icmp .lt 7, 3) := by decide +kernel
theorem dX13_failsOfRuns_105 : decode cX13_failsOfRuns 105 = .ok (.iconst 0, 1) := by decide +kernel
theorem dX13_failsOfRuns_106 : decode cX13_failsOfRuns 106 = .ok (.goto 4, 3) := by decide +kernel
theorem dX13_failsOfRuns_109 : decode cX13_failsOfRuns 109 = .ok (.iconst 1, 1) := by decide +kernel
theorem dX13_failsOfRuns_110 : decode cX13_failsOfRuns 110 = .ok (.iadd, 1) := by decide +kernel
theorem dX13_failsOfRuns_111 : decode cX13_failsOfRuns 111 = .ok (.istore 5, 2) := by decide +kernel
theorem dX13_failsOfRuns_113 : decode cX13_failsOfRuns 113 = .ok (.iinc 6 1, 3) := by decide +kernel
theorem dX13_failsOfRuns_116 : decode cX13_failsOfRuns 116 = .ok (.goto (-49), 3) := by decide +kernel
theorem dX13_failsOfRuns_119 : decode cX13_failsOfRuns 119 = .ok (.aload_n 3, 1) := by decide +kernel
theorem dX13_failsOfRuns_120 : decode cX13_failsOfRuns 120 = .ok (.iconst 1, 1) := by decide +kernel
theorem dX13_failsOfRuns_121 : decode cX13_failsOfRuns 121 = .ok (.iconst 2, 1) := by decide +kernel
theorem dX13_failsOfRuns_122 : decode cX13_failsOfRuns 122 = .ok (.iastore, 1) := by decide +kernel
theorem dX13_failsOfRuns_123 : decode cX13_failsOfRuns 123 = .ok (.iload 5, 2) := by decide +kernel
theorem dX13_failsOfRuns_125 : decode cX13_failsOfRuns 125 = .ok (.aload_n 0, 1) := by decide +kernel
theorem dX13_failsOfRuns_126 : decode cX13_failsOfRuns 126 = .ok (.aload_n 1, 1) := by decide +kernel
theorem dX13_failsOfRuns_127 : decode cX13_failsOfRuns 127 = .ok (.aload_n 3, 1) := by decide +kernel
theorem dX13_failsOfRuns_128 : decode cX13_failsOfRuns 128 = .ok (.invokevirtual 138, 3) := by decide +kernel
theorem dX13_failsOfRuns_131 : decode cX13_failsOfRuns 131 = .ok (.invokeinterface 79 1, 5) := by decide +kernel
theorem dX13_failsOfRuns_136 : decode cX13_failsOfRuns 136 = .ok (.aload 4, 2) := by decide +kernel
theorem dX13_failsOfRuns_138 : decode cX13_failsOfRuns 138 = .ok (.invokeinterface 79 1, 5) := by decide +kernel
theorem dX13_failsOfRuns_143 : decode cX13_failsOfRuns 143 = .ok (.if_icmp .lt 7, 3) := by decide +kernel
theorem dX13_failsOfRuns_146 : decode cX13_failsOfRuns 146 = .ok (.iconst 0, 1) := by decide +kernel
theorem dX13_failsOfRuns_147 : decode cX13_failsOfRuns 147 = .ok (.goto 4, 3) := by decide +kernel
theorem dX13_failsOfRuns_150 : decode cX13_failsOfRuns 150 = .ok (.iconst 1, 1) := by decide +kernel
theorem dX13_failsOfRuns_151 : decode cX13_failsOfRuns 151 = .ok (.iadd, 1) := by decide +kernel
theorem dX13_failsOfRuns_152 : decode cX13_failsOfRuns 152 = .ok (.ireturn, 1) := by decide +kernel
set_option maxRecDepth 20000 in
theorem ggX13_errors_X13_isTape : GoodIn wsX13_errors wsX13_isTape := goodIn_r _ [10, 11, 12, 9, 13] (by decide +kernel) (by decide +kernel)
set_option maxRecDepth 20000 in
theorem gX13_errors_X13_isTape : GoodIn wsX13_errors (va_wsS RX13 44 yX13_isTape wsX13_isTape) := goodIn_app (goodIn_of _ (by decide +kernel)) ggX13_errors_X13_isTape
set_option maxRecDepth 20000 in
theorem ggX13_errors_X13_passes : GoodIn wsX13_errors wsX13_passes := goodIn_r _ [17, 18, 253, 254, 255, 256, 257, 258, 259, 260, 261, 262, 263, 264, 265, 266] (by decide +kernel) (by decide +kernel)
set_option maxRecDepth 20000 in
theorem gX13_errors_X13_passes : GoodIn wsX13_errors (wsV RX13 55 RX13 yX13_passes wsX13_passes) := goodIn_app (goodIn_of _ (by decide +kernel)) ggX13_errors_X13_passes
set_option maxRecDepth 20000 in
theorem ggX13_errors_X13_part : GoodIn wsX13_errors wsX13_part := goodIn_r _ [21, 3] (by decide +kernel) (by decide +kernel)
set_option maxRecDepth 20000 in
theorem gX13_errors_X13_part : GoodIn wsX13_errors (va_wsS RX13 101 yX13_part wsX13_part) := goodIn_app (goodIn_of _ (by decide +kernel)) ggX13_errors_X13_part
set_option maxRecDepth 20000 in
theorem ggX13_errors_X13_inserts : GoodIn wsX13_errors wsX13_inserts := goodIn_r _ [25, 26, 27, 28, 9, 29, 30, 253, 254, 255, 256, 257, 258, 259, 260, 261, 262, 263, 264, 265, 266] (by decide +kernel) (by decide +kernel)
set_option maxRecDepth 20000 in
theorem gX13_errors_X13_inserts : GoodIn wsX13_errors (wsV RX13 105 RX13 yX13_inserts wsX13_inserts) := goodIn_app (goodIn_of _ (by decide +kernel)) ggX13_errors_X13_inserts
set_option maxRecDepth 20000 in
theorem ggX13_errors_X13_failsOfRuns : GoodIn wsX13_errors wsX13_failsOfRuns := goodIn_r _ [34, 3, 2, 35, 36, 37, 38, 9, 39, 40, 41, 42, 43, 44, 45, 46, 47, 48, 49, 50, 51, 52, 53, 54, 55, 56, 57, 58, 59, 60, 61, 62, 63, 64, 65, 66, 67, 68, 69, 70, 71, 72, 73, 74, 75, 76, 77, 78, 79, 80, 81, 82, 83, 84, 85, 86, 87, 88, 89, 90, 91, 92, 93, 94, 95, 96, 97, 98, 99, 100, 101, 102, 103, 104, 105, 106, 107, 108, 109, 110, 111, 112, 113, 114, 115, 116, 117, 118, 119, 120, 121, 122, 123, 124, 125, 126, 127, 128, 129, 130, 131, 132, 133, 134, 135, 136, 137, 138, 139, 140, 141, 142, 143, 144, 145, 146, 147, 148, 149, 150, 151, 152, 153, 154, 155, 156, 157, 158, 159, 160, 161, 162, 163, 164, 165, 166, 167, 26, 27, 28, 29, 30, 168, 169, 170, 171, 172, 173, 174, 175, 176, 177, 178, 179, 19, 20, 21, 22, 23, 24, 25, 253, 254, 255, 256, 257, 258, 259, 260, 261, 262, 263, 264, 265, 266, 279, 280, 281, 282] (by decide +kernel) (by decide +kernel)
set_option maxRecDepth 20000 in
theorem gX13_errors_X13_failsOfRuns : GoodIn wsX13_errors (wsV RX13 342 RX13 yX13_failsOfRuns wsX13_failsOfRuns) := goodIn_app (goodIn_of _ (by decide +kernel)) ggX13_errors_X13_failsOfRuns
set_option maxRecDepth 20000 in
theorem ggX13_errors_X13_runsOf : GoodIn wsX13_errors wsX13_runsOf := goodIn_r _ [39, 40, 41, 42, 43, 44, 45, 9, 46, 47, 48, 49, 50, 51, 52, 53, 54, 55, 56, 57, 58, 59, 60, 61, 62, 63, 64, 65, 66, 67, 68, 69, 70, 71, 72, 73, 74, 75, 76, 77, 78, 79, 80, 81, 82, 83, 84, 85, 86, 87, 88, 89, 90, 91, 92, 93, 94, 95, 96, 97, 98, 99, 100, 101, 102, 103, 104, 105, 106, 107, 108, 109, 110, 111, 112, 113, 114, 115, 116, 117, 118, 119, 120, 121, 122, 123, 124, 125, 126, 127, 128, 129, 130, 131, 132, 133, 134, 135, 136, 137, 138, 139, 140, 141, 142, 143, 144, 145, 146, 147, 148, 149, 150, 151, 152, 153, 154, 155, 156, 157, 158, 159, 160, 161, 162, 163, 164, 165, 166, 167, 26, 27, 28, 29, 30, 168, 169, 170, 171, 172, 173, 174, 175, 176, 177, 178, 179, 3, 19, 20, 21, 22, 23, 24, 25, 279, 280, 281, 282, 253, 254, 255, 256, 257, 258, 259, 260, 261, 262, 263, 264, 265, 266] (by decide +kernel) (by decide +kernel)
set_option maxRecDepth 20000 in
theorem gX13_errors_X13_runsOf : GoodIn wsX13_errors (wsV RX13 138 RX13 yX13_runsOf wsX13_runsOf) := goodIn_app (goodIn_of _ (by decide +kernel)) ggX13_errors_X13_runsOf
set_option maxRecDepth 20000 in
theorem ggX13_errors_Jx4a65c_size_8abf5 : GoodIn wsX13_errors wsJx4a65c_size_8abf5 := goodIn_r _ [147, 92, 279, 280, 281] (by decide +kernel) (by decide +kernel)
set_option maxRecDepth 20000 in
theorem gX13_errors_Jx4a65c_size_8abf5_f79Jx4a65c : GoodIn wsX13_errors (va_wsF RX13 79 RJx4a65c ⟨"java/util/List", "size", "()I"⟩ yJx4a65c_size_8abf5 wsJx4a65c_size_8abf5) := goodIn_app (goodIn_of _ (by decide +kernel)) ggX13_errors_Jx4a65c_size_8abf5
set_option maxRecDepth 20000 in
theorem ggX13_errors_X12_init : GoodIn wsX13_errors wsX12_init := goodIn_r _ [182, 183, 184, 67, 68, 3, 185, 186, 41, 42, 187, 188, 189, 190, 191, 53, 54, 55, 56, 57, 58, 59, 60, 61, 62, 63, 64, 65, 66, 37, 9, 38, 39, 40, 43, 44, 45, 46, 47, 48, 49, 50, 51, 52, 69, 70, 71, 72, 73, 74, 75, 76, 77, 78, 79, 80, 81, 82, 83, 84, 85, 86, 87, 88, 89, 90, 91, 92, 93, 94, 95, 96, 97, 98, 99, 100, 101, 102, 103, 104, 105, 106, 107, 108, 109, 110, 111, 112, 113, 114, 115, 116, 117, 118, 119, 120, 121, 122, 123, 124, 125, 126, 127, 128, 129, 130, 131, 132, 133, 134, 135, 136, 137, 138, 139, 140, 141, 142, 143, 144, 145, 146, 147, 148, 149, 150, 151, 152, 153, 154, 155, 156, 157, 158, 159, 160, 161, 162, 163, 164, 165, 166, 167, 26, 27, 28, 29, 30, 168, 169, 170, 171, 172, 173, 174, 175, 176, 177, 178, 179, 19, 20, 21, 22, 23, 24, 25, 192, 193, 194, 6, 195, 196, 197, 198, 199, 200, 201, 202, 203, 204, 267, 268, 269, 270, 271, 272, 273, 274, 275, 276, 277, 278, 279, 280, 281, 282, 253, 254, 255, 256, 257, 258, 259, 260, 261, 262, 263, 264, 265, 266] (by decide +kernel) (by decide +kernel)
set_option maxRecDepth 20000 in
theorem gX13_errors_X12_init : GoodIn wsX13_errors (wsX12_init) := ggX13_errors_X12_init
set_option maxRecDepth 20000 in
theorem ggX13_errors_X12_goes : GoodIn wsX13_errors wsX12_goes := goodIn_r _ [208, 209, 210, 211, 6, 212, 213, 214, 215, 216, 187, 217, 201, 145, 146, 42, 147, 92, 203, 149, 150, 151, 152, 153, 154, 155, 156, 157, 158, 159, 160, 161, 162, 163, 56, 218, 219, 220, 221, 197, 3, 183, 185, 188, 222, 190, 223, 186, 41, 224, 225, 226, 227, 228, 229, 48, 49, 50, 230, 106, 107, 191, 53, 54, 55, 57, 58, 59, 60, 61, 62, 63, 64, 65, 66, 67, 68, 204, 87, 88, 89, 90, 91, 93, 94, 95, 96, 97, 98, 99, 100, 101, 102, 103, 104, 105, 108, 109, 110, 111, 112, 113, 114, 115, 116, 117, 118, 119, 120, 121, 122, 123, 124, 125, 126, 127, 128, 129, 130, 131, 132, 133, 134, 135, 231, 232, 233, 23, 9, 24, 25, 26, 27, 28, 29, 30, 234, 235, 236, 237, 238, 239, 240, 241, 242, 243, 244, 245, 267, 268, 269, 270, 271, 272, 273, 274, 275, 276, 277, 278, 279, 280, 281, 253, 254, 255, 256, 257, 258, 259, 260, 261, 262, 263, 264, 265, 266] (by decide +kernel) (by decide +kernel)
set_option maxRecDepth 20000 in
theorem gX13_errors_X12_goes : GoodIn wsX13_errors (wsV RX13 155 RX12 yX12_goes wsX12_goes) := goodIn_app (goodIn_of _ (by decide +kernel)) ggX13_errors_X12_goes
set_option maxRecDepth 20000 in
theorem ggX13_errors_X12_result : GoodIn wsX13_errors wsX12_result := goodIn_r _ [249, 187, 217, 197, 3, 201, 145, 146, 42, 147, 92, 203, 149, 150, 151, 152, 153, 154, 155, 156, 157, 158, 159, 160, 161, 162, 163, 56, 202, 137, 138, 139, 267, 268, 269, 270, 271, 272, 273, 274, 275, 276, 277, 278, 279, 280, 281] (by decide +kernel) (by decide +kernel)
set_option maxRecDepth 20000 in
theorem gX13_errors_X12_result : GoodIn wsX13_errors (wsV RX13 176 RX12 yX12_result wsX12_result) := goodIn_app (goodIn_of _ (by decide +kernel)) ggX13_errors_X12_result
set_option maxRecDepth 20000 in
theorem ggX13_errors_X13_areSame : GoodIn wsX13_errors wsX13_areSame := goodIn_r _ [252] (by decide +kernel) (by decide +kernel)
set_option maxRecDepth 20000 in
theorem gX13_errors_X13_areSame : GoodIn wsX13_errors (va_wsS RX13 346 yX13_areSame wsX13_areSame) := goodIn_app (goodIn_of _ (by decide +kernel)) ggX13_errors_X13_areSame
theorem dX13_errors_0 : decode cX13_errors 0 = .ok (.aload_n 0, 1) := by decide +kernel
theorem dX13_errors_1 : decode cX13_errors 1 = .ok (.iload_n 1, 1) := by decide +kernel
theorem dX13_errors_2 : decode cX13_errors 2 = .ok (.invokestatic 44, 3) := by decide +kernel
theorem dX13_errors_5 : decode cX13_errors 5 = .ok (.iconst 1, 1) := by decide +kernel
theorem dX13_errors_6 : decode cX13_errors 6 = .ok (.iconst 1, 1) := by decide +kernel
theorem dX13_errors_7 : decode cX13_errors 7 = .ok (.invokevirtual 55, 3) := by decide +kernel
theorem dX13_errors_10 : decode cX13_errors 10 = .ok (.ifCond .ne 5, 3) := by decide +kernel
theorem dX13_errors_13 : decode cX13_errors 13 = .ok (.iconst 0, 1) := by decide +kernel
theorem dX13_errors_14 : decode cX13_errors 14 = .ok (.ireturn, 1) := by decide +kernel
theorem dX13_errors_15 : decode cX13_errors 15 = .ok (.aload_n 0, 1) := by decide +kernel
theorem dX13_errors_16 : decode cX13_errors 16 = .ok (.getfield 29, 3) := by decide +kernel
theorem dX13_errors_19 : decode cX13_errors 19 = .ok (.iload_n 1, 1) := by decide +kernel
theorem dX13_errors_20 : decode cX13_errors 20 = .ok (.aaload, 1) := by decide +kernel
theorem dX13_errors_21 : decode cX13_errors 21 = .ok (.iconst 0, 1) := by decide +kernel
theorem dX13_errors_22 : decode cX13_errors 22 = .ok (.aload_n 0, 1) := by decide +kernel
theorem dX13_errors_23 : decode cX13_errors 23 = .ok (.getfield 29, 3) := by decide +kernel
theorem dX13_errors_26 : decode cX13_errors 26 = .ok (.iload_n 1, 1) := by decide +kernel
theorem dX13_errors_27 : decode cX13_errors 27 = .ok (.aaload, 1) := by decide +kernel
theorem dX13_errors_28 : decode cX13_errors 28 = .ok (.arraylength, 1) := by decide +kernel
theorem dX13_errors_29 : decode cX13_errors 29 = .ok (.invokestatic 101, 3) := by decide +kernel
theorem dX13_errors_32 : decode cX13_errors 32 = .ok (.astore_n 2, 1) := by decide +kernel
theorem dX13_errors_33 : decode cX13_errors 33 = .ok (.aload_n 0, 1) := by decide +kernel
theorem dX13_errors_34 : decode cX13_errors 34 = .ok (.aload_n 2, 1) := by decide +kernel
theorem dX13_errors_35 : decode cX13_errors 35 = .ok (.aload_n 0, 1) := by decide +kernel
theorem dX13_errors_36 : decode cX13_errors 36 = .ok (.getfield 35, 3) := by decide +kernel
theorem dX13_errors_39 : decode cX13_errors 39 = .ok (.iconst 0, 1) := by decide +kernel
theorem dX13_errors_40 : decode cX13_errors 40 = .ok (.iaload, 1) := by decide +kernel
theorem dX13_errors_41 : decode cX13_errors 41 = .ok (.invokevirtual 105, 3) := by decide +kernel
theorem dX13_errors_44 : decode cX13_errors 44 = .ok (.aload_n 0, 1) := by decide +kernel
theorem dX13_errors_45 : decode cX13_errors 45 = .ok (.aload_n 0, 1) := by decide +kernel
theorem dX13_errors_46 : decode cX13_errors 46 = .ok (.getfield 29, 3) := by decide +kernel
theorem dX13_errors_49 : decode cX13_errors 49 = .ok (.iload_n 1, 1) := by decide +kernel
theorem dX13_errors_50 : decode cX13_errors 50 = .ok (.aaload, 1) := by decide +kernel
theorem dX13_errors_51 : decode cX13_errors 51 = .ok (.aload_n 2, 1) := by decide +kernel
theorem dX13_errors_52 : decode cX13_errors 52 = .ok (.invokevirtual 342, 3) := by decide +kernel
theorem dX13_errors_55 : decode cX13_errors 55 = .ok (.istore_n 3, 1) := by decide +kernel
theorem dX13_errors_56 : decode cX13_errors 56 = .ok (.iconst 0, 1) := by decide +kernel
theorem dX13_errors_57 : decode cX13_errors 57 = .ok (.istore 4, 2) := by decide +kernel
theorem dX13_errors_59 : decode cX13_errors 59 = .ok (.iload 4, 2) := by decide +kernel
theorem dX13_errors_61 : decode cX13_errors 61 = .ok (.bipush 9, 2) := by decide +kernel
theorem dX13_errors_63 : decode cX13_errors 63 = .ok (.if_icmp .ge 171, 3) := by decide +kernel
theorem dX13_errors_66 : decode cX13_errors 66 = .ok (.iconst 5, 1) := by decide +kernel
theorem dX13_errors_67 : decode cX13_errors 67 = .ok (.newarray .int, 2) := by decide +kernel
theorem dX13_errors_69 : decode cX13_errors 69 = .ok (.dup, 1) := by decide +kernel
theorem dX13_errors_70 : decode cX13_errors 70 = .ok (.iconst 0, 1) := by decide +kernel
theorem dX13_errors_71 : decode cX13_errors 71 = .ok (.aload_n 0, 1) := by decide +kernel
theorem dX13_errors_72 : decode cX13_errors 72 = .ok (.getfield 35, 3) := by decide +kernel
theorem dX13_errors_75 : decode cX13_errors 75 = .ok (.iconst 0, 1) := by decide +kernel
theorem dX13_errors_76 : decode cX13_errors 76 = .ok (.iaload, 1) := by decide +kernel
theorem dX13_errors_77 : decode cX13_errors 77 = .ok (.iastore, 1) := by decide +kernel
theorem dX13_errors_78 : decode cX13_errors 78 = .ok (.dup, 1) := by decide +kernel
theorem dX13_errors_79 : decode cX13_errors 79 = .ok (.iconst 1, 1) := by decide +kernel
theorem dX13_errors_80 : decode cX13_errors 80 = .ok (.iload 4, 2) := by decide +kernel
theorem dX13_errors_82 : decode cX13_errors 82 = .ok (.iconst 3, 1) := by decide +kernel
theorem dX13_errors_83 : decode cX13_errors 83 = .ok (.idiv, 1) := by decide +kernel
theorem dX13_errors_84 : decode cX13_errors 84 = .ok (.iastore, 1) := by decide +kernel
theorem dX13_errors_85 : decode cX13_errors 85 = .ok (.dup, 1) := by decide +kernel
theorem dX13_errors_86 : decode cX13_errors 86 = .ok (.iconst 2, 1) := by decide +kernel
theorem dX13_errors_87 : decode cX13_errors 87 = .ok (.aload_n 0, 1) := by decide +kernel
theorem dX13_errors_88 : decode cX13_errors 88 = .ok (.getfield 35, 3) := by decide +kernel
theorem dX13_errors_91 : decode cX13_errors 91 = .ok (.iconst 2, 1) := by decide +kernel
theorem dX13_errors_92 : decode cX13_errors 92 = .ok (.iaload, 1) := by decide +kernel
theorem dX13_errors_93 : decode cX13_errors 93 = .ok (.iastore, 1) := by decide +kernel
theorem dX13_errors_94 : decode cX13_errors 94 = .ok (.dup, 1) := by decide +kernel
theorem dX13_errors_95 : decode cX13_errors 95 = .ok (.iconst 3, 1) := by decide +kernel
theorem dX13_errors_96 : decode cX13_errors 96 = .ok (.iload 4, 2) := by decide +kernel
theorem dX13_errors_98 : decode cX13_errors 98 = .ok (.iconst 3, 1) := by decide +kernel
theorem dX13_errors_99 : decode cX13_errors 99 = .ok (.irem, 1) := by decide +kernel
theorem dX13_errors_100 : decode cX13_errors 100 = .ok (.iastore, 1) := by decide +kernel
theorem dX13_errors_101 : decode cX13_errors 101 = .ok (.dup, 1) := by decide +kernel
theorem dX13_errors_102 : decode cX13_errors 102 = .ok (.iconst 4, 1) := by decide +kernel
theorem dX13_errors_103 : decode cX13_errors 103 = .ok (.aload_n 0, 1) := by decide +kernel
theorem dX13_errors_104 : decode cX13_errors 104 = .ok (.getfield 35, 3) := by decide +kernel
theorem dX13_errors_107 : decode cX13_errors 107 = .ok (.iconst 4, 1) := by decide +kernel
theorem dX13_errors_108 : decode cX13_errors 108 = .ok (.iaload, 1) := by decide +kernel
theorem dX13_errors_109 : decode cX13_errors 109 = .ok (.iastore, 1) := by decide +kernel
theorem dX13_errors_110 : decode cX13_errors 110 = .ok (.astore 5, 2) := by decide +kernel
theorem dX13_errors_112 : decode cX13_errors 112 = .ok (.aload_n 0, 1) := by decide +kernel
theorem dX13_errors_113 : decode cX13_errors 113 = .ok (.aload_n 0, 1) := by decide +kernel
theorem dX13_errors_114 : decode cX13_errors 114 = .ok (.getfield 29, 3) := by decide +kernel
theorem dX13_errors_117 : decode cX13_errors 117 = .ok (.iload_n 1, 1) := by decide +kernel
theorem dX13_errors_118 : decode cX13_errors 118 = .ok (.aaload, 1) := by decide +kernel
theorem dX13_errors_119 : decode cX13_errors 119 = .ok (.aload 5, 2) := by decide +kernel
theorem dX13_errors_121 : decode cX13_errors 121 = .ok (.invokevirtual 138, 3) := by decide +kernel
theorem dX13_errors_124 : decode cX13_errors 124 = .ok (.invokeinterface 79 1, 5) := by decide +kernel
theorem dX13_errors_129 : decode cX13_errors 129 = .ok (.istore 6, 2) := by decide +kernel
theorem dX13_errors_131 : decode cX13_errors 131 = .ok (.new 147, 3) := by decide +kernel
theorem dX13_errors_134 : decode cX13_errors 134 = .ok (.dup, 1) := by decide +kernel
theorem dX13_errors_135 : decode cX13_errors 135 = .ok (.aload_n 0, 1) := by decide +kernel
theorem dX13_errors_136 : decode cX13_errors 136 = .ok (.aload_n 0, 1) := by decide +kernel
theorem dX13_errors_137 : decode cX13_errors 137 = .ok (.getfield 29, 3) := by decide +kernel
theorem dX13_errors_140 : decode cX13_errors 140 = .ok (.iload_n 1, 1) := by decide +kernel
theorem dX13_errors_141 : decode cX13_errors 141 = .ok (.aaload, 1) := by decide +kernel
theorem dX13_errors_142 : decode cX13_errors 142 = .ok (.iconst 0, 1) := by decide +kernel
theorem dX13_errors_143 : decode cX13_errors 143 = .ok (.aload 5, 2) := by decide +kernel
theorem dX13_errors_145 : decode cX13_errors 145 = .ok (.invokespecial 149, 3) := by decide +kernel
theorem dX13_errors_148 : decode cX13_errors 148 = .ok (.astore 7, 2) := by decide +kernel
theorem dX13_errors_150 : decode cX13_errors 150 = .ok (.aload 7, 2) := by decide +kernel
theorem dX13_errors_152 : decode cX13_errors 152 = .ok (.invokevirtual 155, 3) := by decide +kernel
theorem dX13_errors_155 : decode cX13_errors 155 = .ok (.iload_n 3, 1) := by decide +kernel
theorem dX13_errors_156 : decode cX13_errors 156 = .ok (.aload 7, 2) := by decide +kernel
theorem dX13_errors_158 : decode cX13_errors 158 = .ok (.invokevirtual 176, 3) := by decide +kernel
theorem dX13_errors_161 : decode cX13_errors 161 = .ok (.aload_n 2, 1) := by decide +kernel
theorem dX13_errors_162 : decode cX13_errors 162 = .ok (.invokestatic 346, 3) := by decide +kernel
theorem dX13_errors_165 : decode cX13_errors 165 = .ok (.ifCond .eq 7, 3) := by decide +kernel
theorem dX13_errors_168 : decode cX13_errors 168 = .ok (.iconst 0, 1) := by decide +kernel
theorem dX13_errors_169 : decode cX13_errors 169 = .ok (.goto 4, 3) := by decide +kernel
theorem dX13_errors_172 : decode cX13_errors 172 = .ok (.iconst 1, 1) := by decide +kernel
theorem dX13_errors_173 : decode cX13_errors 173 = .ok (.iadd, 1) := by decide +kernel
theorem dX13_errors_174 : decode cX13_errors 174 = .ok (.istore_n 3, 1) := by decide +kernel
theorem dX13_errors_175 : decode cX13_errors 175 = .ok (.iconst 0, 1) := by decide +kernel
theorem dX13_errors_176 : decode cX13_errors 176 = .ok (.istore 8, 2) := by decide +kernel
theorem dX13_errors_178 : decode cX13_errors 178 = .ok (.iconst 1, 1) := by decide +kernel
theorem dX13_errors_179 : decode cX13_errors 179 = .ok (.istore 9, 2) := by decide +kernel
theorem dX13_errors_181 : decode cX13_errors 181 = .ok (.iload 9, 2) := by decide +kernel
theorem dX13_errors_183 : decode cX13_errors 183 = .ok (.iload 6, 2) := by decide +kernel
theorem dX13_errors_185 : decode cX13_errors 185 = .ok (.if_icmp .ge 18, 3) := by decide +kernel
theorem dX13_errors_188 : decode cX13_errors 188 = .ok (.iload 9, 2) := by decide +kernel
theorem dX13_errors_190 : decode cX13_errors 190 = .ok (.aload 5, 2) := by decide +kernel
theorem dX13_errors_192 : decode cX13_errors 192 = .ok (.iconst 4, 1) := by decide +kernel
theorem dX13_errors_193 : decode cX13_errors 193 = .ok (.iaload, 1) := by decide +kernel
theorem dX13_errors_194 : decode cX13_errors 194 = .ok (.imul, 1) := by decide +kernel
theorem dX13_errors_195 : decode cX13_errors 195 = .ok (.istore 9, 2) := by decide +kernel
theorem dX13_errors_197 : decode cX13_errors 197 = .ok (.iinc 8 1, 3) := by decide +kernel
theorem dX13_errors_200 : decode cX13_errors 200 = .ok (.goto (-19), 3) := by decide +kernel
theorem dX13_errors_203 : decode cX13_errors 203 = .ok (.iload_n 3, 1) := by decide +kernel
theorem dX13_errors_204 : decode cX13_errors 204 = .ok (.aload 5, 2) := by decide +kernel
theorem dX13_errors_206 : decode cX13_errors 206 = .ok (.iconst 3, 1) := by decide +kernel
theorem dX13_errors_207 : decode cX13_errors 207 = .ok (.iaload, 1) := by decide +kernel
theorem dX13_errors_208 : decode cX13_errors 208 = .ok (.ifCond .ne 13, 3) := by decide +kernel
theorem dX13_errors_211 : decode cX13_errors 211 = .ok (.aload 7, 2) := by decide +kernel
theorem dX13_errors_213 : decode cX13_errors 213 = .ok (.getfield 158, 3) := by decide +kernel
theorem dX13_errors_216 : decode cX13_errors 216 = .ok (.iload 8, 2) := by decide +kernel
theorem dX13_errors_218 : decode cX13_errors 218 = .ok (.if_icmp .ne 7, 3) := by decide +kernel
theorem dX13_errors_221 : decode cX13_errors 221 = .ok (.iconst 0, 1) := by decide +kernel
theorem dX13_errors_222 : decode cX13_errors 222 = .ok (.goto 4, 3) := by decide +kernel
theorem dX13_errors_225 : decode cX13_errors 225 = .ok (.iconst 1, 1) := by decide +kernel
theorem dX13_errors_226 : decode cX13_errors 226 = .ok (.iadd, 1) := by decide +kernel
theorem dX13_errors_227 : decode cX13_errors 227 = .ok (.istore_n 3, 1) := by decide +kernel
theorem dX13_errors_228 : decode cX13_errors 228 = .ok (.iinc 4 1, 3) := by decide +kernel
theorem dX13_errors_231 : decode cX13_errors 231 = .ok (.goto (-172), 3) := by decide +kernel
theorem dX13_errors_234 : decode cX13_errors 234 = .ok (.iload_n 3, 1) := by decide +kernel
theorem dX13_errors_235 : decode cX13_errors 235 = .ok (.ireturn, 1) := by decide +kernel
set_option maxRecDepth 20000 in
theorem ggX13_meanKey_X13_isTape : GoodIn wsX13_meanKey wsX13_isTape := goodIn_r _ [6, 7, 8, 5, 9] (by decide +kernel) (by decide +kernel)
set_option maxRecDepth 20000 in
theorem gX13_meanKey_X13_isTape : GoodIn wsX13_meanKey (va_wsS RX13 44 yX13_isTape wsX13_isTape) := goodIn_app (goodIn_of _ (by decide +kernel)) ggX13_meanKey_X13_isTape
set_option maxRecDepth 20000 in
theorem ggX13_meanKey_X13_passes : GoodIn wsX13_meanKey wsX13_passes := goodIn_r _ [13, 14, 15, 16, 17, 18, 19, 20, 21, 22, 23, 24, 25, 26, 27, 28] (by decide +kernel) (by decide +kernel)
set_option maxRecDepth 20000 in
theorem gX13_meanKey_X13_passes : GoodIn wsX13_meanKey (wsV RX13 55 RX13 yX13_passes wsX13_passes) := goodIn_app (goodIn_of _ (by decide +kernel)) ggX13_meanKey_X13_passes
theorem dX13_meanKey_0 : decode cX13_meanKey 0 = .ok (.aload_n 0, 1) := by decide +kernel
theorem dX13_meanKey_1 : decode cX13_meanKey 1 = .ok (.iload_n 1, 1) := by decide +kernel
theorem dX13_meanKey_2 : decode cX13_meanKey 2 = .ok (.invokestatic 44, 3) := by decide +kernel
theorem dX13_meanKey_5 : decode cX13_meanKey 5 = .ok (.iconst 1, 1) := by decide +kernel
theorem dX13_meanKey_6 : decode cX13_meanKey 6 = .ok (.iconst 1, 1) := by decide +kernel
theorem dX13_meanKey_7 : decode cX13_meanKey 7 = .ok (.invokevirtual 55, 3) := by decide +kernel
theorem dX13_meanKey_10 : decode cX13_meanKey 10 = .ok (.ifCond .ne 5, 3) := by decide +kernel
theorem dX13_meanKey_13 : decode cX13_meanKey 13 = .ok (.dconst 0, 1) := by decide +kernel
theorem dX13_meanKey_14 : decode cX13_meanKey 14 = .ok (.dreturn, 1) := by decide +kernel
theorem dX13_meanKey_15 : decode cX13_meanKey 15 = .ok (.iconst 0, 1) := by decide +kernel
theorem dX13_meanKey_16 : decode cX13_meanKey 16 = .ok (.istore_n 2, 1) := by decide +kernel
theorem dX13_meanKey_17 : decode cX13_meanKey 17 = .ok (.iconst 0, 1) := by decide +kernel
theorem dX13_meanKey_18 : decode cX13_meanKey 18 = .ok (.istore_n 3, 1) := by decide +kernel
theorem dX13_meanKey_19 : decode cX13_meanKey 19 = .ok (.iload_n 3, 1) := by decide +kernel
theorem dX13_meanKey_20 : decode cX13_meanKey 20 = .ok (.aload_n 0, 1) := by decide +kernel
theorem dX13_meanKey_21 : decode cX13_meanKey 21 = .ok (.getfield 29, 3) := by decide +kernel
theorem dX13_meanKey_24 : decode cX13_meanKey 24 = .ok (.iload_n 1, 1) := by decide +kernel
theorem dX13_meanKey_25 : decode cX13_meanKey 25 = .ok (.aaload, 1) := by decide +kernel
theorem dX13_meanKey_26 : decode cX13_meanKey 26 = .ok (.arraylength, 1) := by decide +kernel
theorem dX13_meanKey_27 : decode cX13_meanKey 27 = .ok (.if_icmp .ge 25, 3) := by decide +kernel
theorem dX13_meanKey_30 : decode cX13_meanKey 30 = .ok (.iload_n 2, 1) := by decide +kernel
theorem dX13_meanKey_31 : decode cX13_meanKey 31 = .ok (.aload_n 0, 1) := by decide +kernel
theorem dX13_meanKey_32 : decode cX13_meanKey 32 = .ok (.getfield 11, 3) := by decide +kernel
theorem dX13_meanKey_35 : decode cX13_meanKey 35 = .ok (.aload_n 0, 1) := by decide +kernel
theorem dX13_meanKey_36 : decode cX13_meanKey 36 = .ok (.getfield 29, 3) := by decide +kernel
theorem dX13_meanKey_39 : decode cX13_meanKey 39 = .ok (.iload_n 1, 1) := by decide +kernel
theorem dX13_meanKey_40 : decode cX13_meanKey 40 = .ok (.aaload, 1) := by decide +kernel
theorem dX13_meanKey_41 : decode cX13_meanKey 41 = .ok (.iload_n 3, 1) := by decide +kernel
theorem dX13_meanKey_42 : decode cX13_meanKey 42 = .ok (.iaload, 1) := by decide +kernel
theorem dX13_meanKey_43 : decode cX13_meanKey 43 = .ok (.iaload, 1) := by decide +kernel
theorem dX13_meanKey_44 : decode cX13_meanKey 44 = .ok (.iadd, 1) := by decide +kernel
theorem dX13_meanKey_45 : decode cX13_meanKey 45 = .ok (.istore_n 2, 1) := by decide +kernel
theorem dX13_meanKey_46 : decode cX13_meanKey 46 = .ok (.iinc 3 1, 3) := by decide +kernel
theorem dX13_meanKey_49 : decode cX13_meanKey 49 = .ok (.goto (-30), 3) := by decide +kernel
theorem dX13_meanKey_52 : decode cX13_meanKey 52 = .ok (.aload_n 0, 1) := by decide +kernel
theorem dX13_meanKey_53 : decode cX13_meanKey 53 = .ok (.getfield 29, 3) := by decide +kernel
theorem dX13_meanKey_56 : decode cX13_meanKey 56 = .ok (.iload_n 1, 1) := by decide +kernel
theorem dX13_meanKey_57 : decode cX13_meanKey 57 = .ok (.aaload, 1) := by decide +kernel
theorem dX13_meanKey_58 : decode cX13_meanKey 58 = .ok (.arraylength, 1) := by decide +kernel
theorem dX13_meanKey_59 : decode cX13_meanKey 59 = .ok (.ifCond .ne 7, 3) := by decide +kernel
theorem dX13_meanKey_62 : decode cX13_meanKey 62 = .ok (.dconst 0, 1) := by decide +kernel
theorem dX13_meanKey_63 : decode cX13_meanKey 63 = .ok (.goto 14, 3) := by decide +kernel
theorem dX13_meanKey_66 : decode cX13_meanKey 66 = .ok (.iload_n 2, 1) := by decide +kernel
theorem dX13_meanKey_67 : decode cX13_meanKey 67 = .ok (.i2d, 1) := by decide +kernel
theorem dX13_meanKey_68 : decode cX13_meanKey 68 = .ok (.aload_n 0, 1) := by decide +kernel
theorem dX13_meanKey_69 : decode cX13_meanKey 69 = .ok (.getfield 29, 3) := by decide +kernel
theorem dX13_meanKey_72 : decode cX13_meanKey 72 = .ok (.iload_n 1, 1) := by decide +kernel
theorem dX13_meanKey_73 : decode cX13_meanKey 73 = .ok (.aaload, 1) := by decide +kernel
theorem dX13_meanKey_74 : decode cX13_meanKey 74 = .ok (.arraylength, 1) := by decide +kernel
theorem dX13_meanKey_75 : decode cX13_meanKey 75 = .ok (.i2d, 1) := by decide +kernel
theorem dX13_meanKey_76 : decode cX13_meanKey 76 = .ok (.ddiv, 1) := by decide +kernel
theorem dX13_meanKey_77 : decode cX13_meanKey 77 = .ok (.dreturn, 1) := by decide +kernel
set_option maxRecDepth 20000 in
theorem ggX13_sortedShare_X13_isInOrder : GoodIn wsX13_sortedShare wsX13_isInOrder := goodIn_r _ [8, 9, 10, 11, 7, 12, 13, 14, 15, 16, 17, 18, 19, 20, 21, 22, 23, 24, 25, 26, 27] (by decide +kernel) (by decide +kernel)
set_option maxRecDepth 20000 in
theorem gX13_sortedShare_X13_isInOrder : GoodIn wsX13_sortedShare (wsV RX13 71 RX13 yX13_isInOrder wsX13_isInOrder) := goodIn_app (goodIn_of _ (by decide +kernel)) ggX13_sortedShare_X13_isInOrder
theorem dX13_sortedShare_0 : decode cX13_sortedShare 0 = .ok (.aload_n 0, 1) := by decide +kernel
theorem dX13_sortedShare_1 : decode cX13_sortedShare 1 = .ok (.iconst 0, 1) := by decide +kernel
theorem dX13_sortedShare_2 : decode cX13_sortedShare 2 = .ok (.putfield 1, 3) := by decide +kernel
theorem dX13_sortedShare_5 : decode cX13_sortedShare 5 = .ok (.iconst 0, 1) := by decide +kernel
theorem dX13_sortedShare_6 : decode cX13_sortedShare 6 = .ok (.istore_n 1, 1) := by decide +kernel
theorem dX13_sortedShare_7 : decode cX13_sortedShare 7 = .ok (.iconst 0, 1) := by decide +kernel
theorem dX13_sortedShare_8 : decode cX13_sortedShare 8 = .ok (.istore_n 2, 1) := by decide +kernel
theorem dX13_sortedShare_9 : decode cX13_sortedShare 9 = .ok (.iload_n 2, 1) := by decide +kernel
theorem dX13_sortedShare_10 : decode cX13_sortedShare 10 = .ok (.bipush 8, 2) := by decide +kernel
theorem dX13_sortedShare_12 : decode cX13_sortedShare 12 = .ok (.if_icmp .ge 31, 3) := by decide +kernel
theorem dX13_sortedShare_15 : decode cX13_sortedShare 15 = .ok (.iload_n 1, 1) := by decide +kernel
theorem dX13_sortedShare_16 : decode cX13_sortedShare 16 = .ok (.aload_n 0, 1) := by decide +kernel
theorem dX13_sortedShare_17 : decode cX13_sortedShare 17 = .ok (.aload_n 0, 1) := by decide +kernel
theorem dX13_sortedShare_18 : decode cX13_sortedShare 18 = .ok (.getfield 29, 3) := by decide +kernel
theorem dX13_sortedShare_21 : decode cX13_sortedShare 21 = .ok (.iload_n 2, 1) := by decide +kernel
theorem dX13_sortedShare_22 : decode cX13_sortedShare 22 = .ok (.aaload, 1) := by decide +kernel
theorem dX13_sortedShare_23 : decode cX13_sortedShare 23 = .ok (.iconst 0, 1) := by decide +kernel
theorem dX13_sortedShare_24 : decode cX13_sortedShare 24 = .ok (.invokevirtual 71, 3) := by decide +kernel
theorem dX13_sortedShare_27 : decode cX13_sortedShare 27 = .ok (.ifCond .eq 7, 3) := by decide +kernel
theorem dX13_sortedShare_30 : decode cX13_sortedShare 30 = .ok (.iconst 1, 1) := by decide +kernel
theorem dX13_sortedShare_31 : decode cX13_sortedShare 31 = .ok (.goto 4, 3) := by decide +kernel
theorem dX13_sortedShare_34 : decode cX13_sortedShare 34 = .ok (.iconst 0, 1) := by decide +kernel
theorem dX13_sortedShare_35 : decode cX13_sortedShare 35 = .ok (.iadd, 1) := by decide +kernel
theorem dX13_sortedShare_36 : decode cX13_sortedShare 36 = .ok (.istore_n 1, 1) := by decide +kernel
theorem dX13_sortedShare_37 : decode cX13_sortedShare 37 = .ok (.iinc 2 1, 3) := by decide +kernel
theorem dX13_sortedShare_40 : decode cX13_sortedShare 40 = .ok (.goto (-31), 3) := by decide +kernel
theorem dX13_sortedShare_43 : decode cX13_sortedShare 43 = .ok (.iload_n 1, 1) := by decide +kernel
theorem dX13_sortedShare_44 : decode cX13_sortedShare 44 = .ok (.i2f, 1) := by decide +kernel
theorem dX13_sortedShare_45 : decode cX13_sortedShare 45 = .ok (.ldc_w 350, 3) := by decide +kernel
theorem dX13_sortedShare_48 : decode cX13_sortedShare 48 = .ok (.fdiv, 1) := by decide +kernel
theorem dX13_sortedShare_49 : decode cX13_sortedShare 49 = .ok (.freturn, 1) := by decide +kernel
set_option maxRecDepth 20000 in
theorem ggJ6_valueOf_2dffe_J6_init_d00df : GoodIn wsJ6_valueOf_2dffe wsJ6_init_d00df := goodIn_r _ [8, 9, 10, 11, 12, 13, 14, 15, 16, 17] (by decide +kernel) (by decide +kernel)
set_option maxRecDepth 20000 in
theorem gJ6_valueOf_2dffe_J6_init_d00df : GoodIn wsJ6_valueOf_2dffe (wsJ6_init_d00df) := ggJ6_valueOf_2dffe_J6_init_d00df
theorem dJ6_valueOf_2dffe_0 : decode cJ6_valueOf_2dffe 0 = .ok (.iload_n 0, 1) := by decide +kernel
theorem dJ6_valueOf_2dffe_1 : decode cJ6_valueOf_2dffe 1 = .ok (.bipush (-128), 2) := by decide +kernel
theorem dJ6_valueOf_2dffe_3 : decode cJ6_valueOf_2dffe 3 = .ok (.if_icmp .lt 20, 3) := by decide +kernel
theorem dJ6_valueOf_2dffe_6 : decode cJ6_valueOf_2dffe 6 = .ok (.iload_n 0, 1) := by decide +kernel
theorem dJ6_valueOf_2dffe_7 : decode cJ6_valueOf_2dffe 7 = .ok (.getstatic 191, 3) := by decide +kernel
theorem dJ6_valueOf_2dffe_10 : decode cJ6_valueOf_2dffe 10 = .ok (.if_icmp .gt 13, 3) := by decide +kernel
theorem dJ6_valueOf_2dffe_13 : decode cJ6_valueOf_2dffe 13 = .ok (.getstatic 195, 3) := by decide +kernel
theorem dJ6_valueOf_2dffe_16 : decode cJ6_valueOf_2dffe 16 = .ok (.iload_n 0, 1) := by decide +kernel
theorem dJ6_valueOf_2dffe_17 : decode cJ6_valueOf_2dffe 17 = .ok (.sipush 128, 3) := by decide +kernel
theorem dJ6_valueOf_2dffe_20 : decode cJ6_valueOf_2dffe 20 = .ok (.iadd, 1) := by decide +kernel
theorem dJ6_valueOf_2dffe_21 : decode cJ6_valueOf_2dffe 21 = .ok (.aaload, 1) := by decide +kernel
theorem dJ6_valueOf_2dffe_22 : decode cJ6_valueOf_2dffe 22 = .ok (.areturn, 1) := by decide +kernel
theorem dJ6_valueOf_2dffe_23 : decode cJ6_valueOf_2dffe 23 = .ok (.new 1, 3) := by decide +kernel
theorem dJ6_valueOf_2dffe_26 : decode cJ6_valueOf_2dffe 26 = .ok (.dup, 1) := by decide +kernel
theorem dJ6_valueOf_2dffe_27 : decode cJ6_valueOf_2dffe 27 = .ok (.iload_n 0, 1) := by decide +kernel
theorem dJ6_valueOf_2dffe_28 : decode cJ6_valueOf_2dffe 28 = .ok (.invokespecial 199, 3) := by decide +kernel
theorem dJ6_valueOf_2dffe_31 : decode cJ6_valueOf_2dffe 31 = .ok (.areturn, 1) := by decide +kernel
set_option maxRecDepth 20000 in
theorem ggJ6_init_d00df_Jxd2413_init_da8c8 : GoodIn wsJ6_init_d00df wsJxd2413_init_da8c8 := goodIn_r _ [5, 6, 7, 8] (by decide +kernel) (by decide +kernel)
set_option maxRecDepth 20000 in
theorem gJ6_init_d00df_Jxd2413_init_da8c8 : GoodIn wsJ6_init_d00df (wsJxd2413_init_da8c8) := ggJ6_init_d00df_Jxd2413_init_da8c8
theorem dJ6_init_d00df_0 : decode cJ6_init_d00df 0 = .ok (.aload_n 0, 1) := by decide +kernel
theorem dJ6_init_d00df_1 : decode cJ6_init_d00df 1 = .ok (.invokespecial 202, 3) := by decide +kernel
theorem dJ6_init_d00df_4 : decode cJ6_init_d00df 4 = .ok (.aload_n 0, 1) := by decide +kernel
theorem dJ6_init_d00df_5 : decode cJ6_init_d00df 5 = .ok (.iload_n 1, 1) := by decide +kernel
theorem dJ6_init_d00df_6 : decode cJ6_init_d00df 6 = .ok (.putfield 205, 3) := by decide +kernel
theorem dJ6_init_d00df_9 : decode cJ6_init_d00df 9 = .ok (.return_, 1) := by decide +kernel
theorem dJ6_intValue_8abf5_0 : decode cJ6_intValue_8abf5 0 = .ok (.aload_n 0, 1) := by decide +kernel
theorem dJ6_intValue_8abf5_1 : decode cJ6_intValue_8abf5 1 = .ok (.getfield 205, 3) := by decide +kernel
theorem dJ6_intValue_8abf5_4 : decode cJ6_intValue_8abf5 4 = .ok (.ireturn, 1) := by decide +kernel
theorem dJ9_max_7cf53_0 : decode cJ9_max_7cf53 0 = .ok (.iload_n 0, 1) := by decide +kernel
theorem dJ9_max_7cf53_1 : decode cJ9_max_7cf53 1 = .ok (.iload_n 1, 1) := by decide +kernel
theorem dJ9_max_7cf53_2 : decode cJ9_max_7cf53 2 = .ok (.if_icmp .lt 7, 3) := by decide +kernel
theorem dJ9_max_7cf53_5 : decode cJ9_max_7cf53 5 = .ok (.iload_n 0, 1) := by decide +kernel
theorem dJ9_max_7cf53_6 : decode cJ9_max_7cf53 6 = .ok (.goto 4, 3) := by decide +kernel
theorem dJ9_max_7cf53_9 : decode cJ9_max_7cf53 9 = .ok (.iload_n 1, 1) := by decide +kernel
theorem dJ9_max_7cf53_10 : decode cJ9_max_7cf53 10 = .ok (.ireturn, 1) := by decide +kernel
theorem dJ9_min_7cf53_0 : decode cJ9_min_7cf53 0 = .ok (.iload_n 0, 1) := by decide +kernel
theorem dJ9_min_7cf53_1 : decode cJ9_min_7cf53 1 = .ok (.iload_n 1, 1) := by decide +kernel
theorem dJ9_min_7cf53_2 : decode cJ9_min_7cf53 2 = .ok (.if_icmp .gt 7, 3) := by decide +kernel
theorem dJ9_min_7cf53_5 : decode cJ9_min_7cf53 5 = .ok (.iload_n 0, 1) := by decide +kernel
theorem dJ9_min_7cf53_6 : decode cJ9_min_7cf53 6 = .ok (.goto 4, 3) := by decide +kernel
theorem dJ9_min_7cf53_9 : decode cJ9_min_7cf53 9 = .ok (.iload_n 1, 1) := by decide +kernel
theorem dJ9_min_7cf53_10 : decode cJ9_min_7cf53 10 = .ok (.ireturn, 1) := by decide +kernel
theorem dJxd2413_init_da8c8_0 : decode cJxd2413_init_da8c8 0 = .ok (.aload_n 0, 1) := by decide +kernel
theorem dJxd2413_init_da8c8_1 : decode cJxd2413_init_da8c8 1 = .ok (.invokespecial 1, 3) := by decide +kernel
theorem dJxd2413_init_da8c8_4 : decode cJxd2413_init_da8c8 4 = .ok (.return_, 1) := by decide +kernel
set_option maxRecDepth 20000 in
theorem ggJ0_length_8abf5_J0_coder_7d493 : GoodIn wsJ0_length_8abf5 wsJ0_coder_7d493 := goodIn_r _ [6, 7, 8] (by decide +kernel) (by decide +kernel)
set_option maxRecDepth 20000 in
theorem gJ0_length_8abf5_J0_coder_7d493 : GoodIn wsJ0_length_8abf5 (wsV RJ0 335 RJ0 yJ0_coder_7d493 wsJ0_coder_7d493) := goodIn_app (goodIn_of _ (by decide +kernel)) ggJ0_length_8abf5_J0_coder_7d493
theorem dJ0_length_8abf5_0 : decode cJ0_length_8abf5 0 = .ok (.aload_n 0, 1) := by decide +kernel
theorem dJ0_length_8abf5_1 : decode cJ0_length_8abf5 1 = .ok (.getfield 9, 3) := by decide +kernel
theorem dJ0_length_8abf5_4 : decode cJ0_length_8abf5 4 = .ok (.arraylength, 1) := by decide +kernel
theorem dJ0_length_8abf5_5 : decode cJ0_length_8abf5 5 = .ok (.aload_n 0, 1) := by decide +kernel
theorem dJ0_length_8abf5_6 : decode cJ0_length_8abf5 6 = .ok (.invokevirtual 335, 3) := by decide +kernel
theorem dJ0_length_8abf5_9 : decode cJ0_length_8abf5 9 = .ok (.ishr, 1) := by decide +kernel
theorem dJ0_length_8abf5_10 : decode cJ0_length_8abf5 10 = .ok (.ireturn, 1) := by decide +kernel
set_option maxRecDepth 20000 in
theorem ggJ0_charAt_5068e_J0_isLatin1_aae02 : GoodIn wsJ0_charAt_5068e wsJ0_isLatin1_aae02 := goodIn_r _ [6, 7, 8] (by decide +kernel) (by decide +kernel)
set_option maxRecDepth 20000 in
theorem gJ0_charAt_5068e_J0_isLatin1_aae02 : GoodIn wsJ0_charAt_5068e (wsV RJ0 492 RJ0 yJ0_isLatin1_aae02 wsJ0_isLatin1_aae02) := goodIn_app (goodIn_of _ (by decide +kernel)) ggJ0_charAt_5068e_J0_isLatin1_aae02
set_option maxRecDepth 20000 in
theorem ggJ0_charAt_5068e_J1_charAt_3b067 : GoodIn wsJ0_charAt_5068e wsJ1_charAt_3b067 := goodIn_r _ [12, 13, 14, 5, 15, 16, 17, 18, 19, 20] (by decide +kernel) (by decide +kernel)
set_option maxRecDepth 20000 in
theorem gJ0_charAt_5068e_J1_charAt_3b067 : GoodIn wsJ0_charAt_5068e (va_wsS RJ0 495 yJ1_charAt_3b067 wsJ1_charAt_3b067) := goodIn_app (goodIn_of _ (by decide +kernel)) ggJ0_charAt_5068e_J1_charAt_3b067
set_option maxRecDepth 20000 in
theorem ggJ0_charAt_5068e_J2_charAt_3b067 : GoodIn wsJ0_charAt_5068e wsJ2_charAt_3b067 := goodIn_r _ [24, 25, 26, 23, 27, 28, 29, 30, 31, 14, 5, 15, 16, 17, 18, 19, 20, 32, 33, 34, 35, 36, 37] (by decide +kernel) (by decide +kernel)
set_option maxRecDepth 20000 in
theorem gJ0_charAt_5068e_J2_charAt_3b067 : GoodIn wsJ0_charAt_5068e (va_wsS RJ0 498 yJ2_charAt_3b067 wsJ2_charAt_3b067) := goodIn_app (goodIn_of _ (by decide +kernel)) ggJ0_charAt_5068e_J2_charAt_3b067
theorem dJ0_charAt_5068e_0 : decode cJ0_charAt_5068e 0 = .ok (.aload_n 0, 1) := by decide +kernel
theorem dJ0_charAt_5068e_1 : decode cJ0_charAt_5068e 1 = .ok (.invokevirtual 492, 3) := by decide +kernel
theorem dJ0_charAt_5068e_4 : decode cJ0_charAt_5068e 4 = .ok (.ifCond .eq 12, 3) := by decide +kernel
theorem dJ0_charAt_5068e_7 : decode cJ0_charAt_5068e 7 = .ok (.aload_n 0, 1) := by decide +kernel
theorem dJ0_charAt_5068e_8 : decode cJ0_charAt_5068e 8 = .ok (.getfield 9, 3) := by decide +kernel
theorem dJ0_charAt_5068e_11 : decode cJ0_charAt_5068e 11 = .ok (.iload_n 1, 1) := by decide +kernel
theorem dJ0_charAt_5068e_12 : decode cJ0_charAt_5068e 12 = .ok (.invokestatic 495, 3) := by decide +kernel
theorem dJ0_charAt_5068e_15 : decode cJ0_charAt_5068e 15 = .ok (.ireturn, 1) := by decide +kernel
theorem dJ0_charAt_5068e_16 : decode cJ0_charAt_5068e 16 = .ok (.aload_n 0, 1) := by decide +kernel
theorem dJ0_charAt_5068e_17 : decode cJ0_charAt_5068e 17 = .ok (.getfield 9, 3) := by decide +kernel
theorem dJ0_charAt_5068e_20 : decode cJ0_charAt_5068e 20 = .ok (.iload_n 1, 1) := by decide +kernel
theorem dJ0_charAt_5068e_21 : decode cJ0_charAt_5068e 21 = .ok (.invokestatic 498, 3) := by decide +kernel
theorem dJ0_charAt_5068e_24 : decode cJ0_charAt_5068e 24 = .ok (.ireturn, 1) := by decide +kernel
theorem dJ0_coder_7d493_0 : decode cJ0_coder_7d493 0 = .ok (.getstatic 38, 3) := by decide +kernel
theorem dJ0_coder_7d493_3 : decode cJ0_coder_7d493 3 = .ok (.ifCond .eq 10, 3) := by decide +kernel
theorem dJ0_coder_7d493_6 : decode cJ0_coder_7d493 6 = .ok (.aload_n 0, 1) := by decide +kernel
theorem dJ0_coder_7d493_7 : decode cJ0_coder_7d493 7 = .ok (.getfield 15, 3) := by decide +kernel
theorem dJ0_coder_7d493_10 : decode cJ0_coder_7d493 10 = .ok (.goto 4, 3) := by decide +kernel
theorem dJ0_coder_7d493_13 : decode cJ0_coder_7d493 13 = .ok (.iconst 1, 1) := by decide +kernel
theorem dJ0_coder_7d493_14 : decode cJ0_coder_7d493 14 = .ok (.ireturn, 1) := by decide +kernel
theorem dJ0_isLatin1_aae02_0 : decode cJ0_isLatin1_aae02 0 = .ok (.getstatic 38, 3) := by decide +kernel
theorem dJ0_isLatin1_aae02_3 : decode cJ0_isLatin1_aae02 3 = .ok (.ifCond .eq 14, 3) := by decide +kernel
theorem dJ0_isLatin1_aae02_6 : decode cJ0_isLatin1_aae02 6 = .ok (.aload_n 0, 1) := by decide +kernel
theorem dJ0_isLatin1_aae02_7 : decode cJ0_isLatin1_aae02 7 = .ok (.getfield 15, 3) := by decide +kernel
theorem dJ0_isLatin1_aae02_10 : decode cJ0_isLatin1_aae02 10 = .ok (.ifCond .ne 7, 3) := by decide +kernel
theorem dJ0_isLatin1_aae02_13 : decode cJ0_isLatin1_aae02 13 = .ok (.iconst 1, 1) := by decide +kernel
theorem dJ0_isLatin1_aae02_14 : decode cJ0_isLatin1_aae02 14 = .ok (.goto 4, 3) := by decide +kernel
theorem dJ0_isLatin1_aae02_17 : decode cJ0_isLatin1_aae02 17 = .ok (.iconst 0, 1) := by decide +kernel
theorem dJ0_isLatin1_aae02_18 : decode cJ0_isLatin1_aae02 18 = .ok (.ireturn, 1) := by decide +kernel
set_option maxRecDepth 20000 in
theorem ggJ0_checkIndex_df160_J3_checkIndex_8e157 : GoodIn wsJ0_checkIndex_df160 wsJ3_checkIndex_8e157 := goodIn_r _ [5] (by decide +kernel) (by decide +kernel)
set_option maxRecDepth 20000 in
theorem gJ0_checkIndex_df160_J3_checkIndex_8e157 : GoodIn wsJ0_checkIndex_df160 (va_wsS RJ0 1059 yJ3_checkIndex_8e157 wsJ3_checkIndex_8e157) := goodIn_app (goodIn_of _ (by decide +kernel)) ggJ0_checkIndex_df160_J3_checkIndex_8e157
theorem dJ0_checkIndex_df160_0 : decode cJ0_checkIndex_df160 0 = .ok (.iload_n 0, 1) := by decide +kernel
theorem dJ0_checkIndex_df160_1 : decode cJ0_checkIndex_df160 1 = .ok (.iload_n 1, 1) := by decide +kernel
theorem dJ0_checkIndex_df160_2 : decode cJ0_checkIndex_df160 2 = .ok (.getstatic 1053, 3) := by decide +kernel
theorem dJ0_checkIndex_df160_5 : decode cJ0_checkIndex_df160 5 = .ok (.invokestatic 1059, 3) := by decide +kernel
theorem dJ0_checkIndex_df160_8 : decode cJ0_checkIndex_df160 8 = .ok (.pop, 1) := by decide +kernel
theorem dJ0_checkIndex_df160_9 : decode cJ0_checkIndex_df160 9 = .ok (.return_, 1) := by decide +kernel
set_option maxRecDepth 20000 in
theorem ggJ1_charAt_3b067_J0_checkIndex_df160 : GoodIn wsJ1_charAt_3b067 wsJ0_checkIndex_df160 := goodIn_r _ [4, 5, 6, 7, 8, 9] (by decide +kernel) (by decide +kernel)
set_option maxRecDepth 20000 in
theorem gJ1_charAt_3b067_J0_checkIndex_df160 : GoodIn wsJ1_charAt_3b067 (va_wsS RJ1 9 yJ0_checkIndex_df160 wsJ0_checkIndex_df160) := goodIn_app (goodIn_of _ (by decide +kernel)) ggJ1_charAt_3b067_J0_checkIndex_df160
theorem dJ1_charAt_3b067_0 : decode cJ1_charAt_3b067 0 = .ok (.iload_n 1, 1) := by decide +kernel
theorem dJ1_charAt_3b067_1 : decode cJ1_charAt_3b067 1 = .ok (.aload_n 0, 1) := by decide +kernel
theorem dJ1_charAt_3b067_2 : decode cJ1_charAt_3b067 2 = .ok (.arraylength, 1) := by decide +kernel
theorem dJ1_charAt_3b067_3 : decode cJ1_charAt_3b067 3 = .ok (.invokestatic 9, 3) := by decide +kernel
theorem dJ1_charAt_3b067_6 : decode cJ1_charAt_3b067 6 = .ok (.aload_n 0, 1) := by decide +kernel
theorem dJ1_charAt_3b067_7 : decode cJ1_charAt_3b067 7 = .ok (.iload_n 1, 1) := by decide +kernel
theorem dJ1_charAt_3b067_8 : decode cJ1_charAt_3b067 8 = .ok (.baload, 1) := by decide +kernel
theorem dJ1_charAt_3b067_9 : decode cJ1_charAt_3b067 9 = .ok (.sipush 255, 3) := by decide +kernel
theorem dJ1_charAt_3b067_12 : decode cJ1_charAt_3b067 12 = .ok (.iand, 1) := by decide +kernel
theorem dJ1_charAt_3b067_13 : decode cJ1_charAt_3b067 13 = .ok (.i2c, 1) := by decide +kernel
theorem dJ1_charAt_3b067_14 : decode cJ1_charAt_3b067 14 = .ok (.ireturn, 1) := by decide +kernel
set_option maxRecDepth 20000 in
theorem ggJ2_getChar_3b067_J2_length_9d52b : GoodIn wsJ2_getChar_3b067 wsJ2_length_9d52b := goodIn_r _ [7] (by decide +kernel) (by decide +kernel)
set_option maxRecDepth 20000 in
theorem gJ2_getChar_3b067_J2_length_9d52b : GoodIn wsJ2_getChar_3b067 (va_wsS RJ2 48 yJ2_length_9d52b wsJ2_length_9d52b) := goodIn_app (goodIn_of _ (by decide +kernel)) ggJ2_getChar_3b067_J2_length_9d52b
theorem dJ2_getChar_3b067_0 : decode cJ2_getChar_3b067 0 = .ok (.getstatic 44, 3) := by decide +kernel
theorem dJ2_getChar_3b067_3 : decode cJ2_getChar_3b067 3 = .ok (.ifCond .ne 25, 3) := by decide +kernel
theorem dJ2_getChar_3b067_6 : decode cJ2_getChar_3b067 6 = .ok (.iload_n 1, 1) := by decide +kernel
theorem dJ2_getChar_3b067_7 : decode cJ2_getChar_3b067 7 = .ok (.ifCond .lt 11, 3) := by decide +kernel
theorem dJ2_getChar_3b067_10 : decode cJ2_getChar_3b067 10 = .ok (.iload_n 1, 1) := by decide +kernel
theorem dJ2_getChar_3b067_11 : decode cJ2_getChar_3b067 11 = .ok (.aload_n 0, 1) := by decide +kernel
theorem dJ2_getChar_3b067_12 : decode cJ2_getChar_3b067 12 = .ok (.invokestatic 48, 3) := by decide +kernel
theorem dJ2_getChar_3b067_15 : decode cJ2_getChar_3b067 15 = .ok (.if_icmp .lt 13, 3) := by decide +kernel
theorem dJ2_getChar_3b067_18 : decode cJ2_getChar_3b067 18 = .ok (.new 52, 3) := by decide +kernel
theorem dJ2_getChar_3b067_21 : decode cJ2_getChar_3b067 21 = .ok (.dup, 1) := by decide +kernel
theorem dJ2_getChar_3b067_22 : decode cJ2_getChar_3b067 22 = .ok (.ldc 54, 2) := by decide +kernel
theorem dJ2_getChar_3b067_24 : decode cJ2_getChar_3b067 24 = .ok (.invokespecial 56, 3) := by decide +kernel
theorem dJ2_getChar_3b067_27 : decode cJ2_getChar_3b067 27 = .ok (.athrow, 1) := by decide +kernel
theorem dJ2_getChar_3b067_28 : decode cJ2_getChar_3b067 28 = .ok (.iload_n 1, 1) := by decide +kernel
theorem dJ2_getChar_3b067_29 : decode cJ2_getChar_3b067 29 = .ok (.iconst 1, 1) := by decide +kernel
theorem dJ2_getChar_3b067_30 : decode cJ2_getChar_3b067 30 = .ok (.ishl, 1) := by decide +kernel
theorem dJ2_getChar_3b067_31 : decode cJ2_getChar_3b067 31 = .ok (.istore_n 1, 1) := by decide +kernel
theorem dJ2_getChar_3b067_32 : decode cJ2_getChar_3b067 32 = .ok (.aload_n 0, 1) := by decide +kernel
theorem dJ2_getChar_3b067_33 : decode cJ2_getChar_3b067 33 = .ok (.iload_n 1, 1) := by decide +kernel
theorem dJ2_getChar_3b067_34 : decode cJ2_getChar_3b067 34 = .ok (.iinc 1 1, 3) := by decide +kernel
theorem dJ2_getChar_3b067_37 : decode cJ2_getChar_3b067 37 = .ok (.baload, 1) := by decide +kernel
theorem dJ2_getChar_3b067_38 : decode cJ2_getChar_3b067 38 = .ok (.sipush 255, 3) := by decide +kernel
theorem dJ2_getChar_3b067_41 : decode cJ2_getChar_3b067 41 = .ok (.iand, 1) := by decide +kernel
theorem dJ2_getChar_3b067_42 : decode cJ2_getChar_3b067 42 = .ok (.getstatic 59, 3) := by decide +kernel
theorem dJ2_getChar_3b067_45 : decode cJ2_getChar_3b067 45 = .ok (.ishl, 1) := by decide +kernel
theorem dJ2_getChar_3b067_46 : decode cJ2_getChar_3b067 46 = .ok (.aload_n 0, 1) := by decide +kernel
theorem dJ2_getChar_3b067_47 : decode cJ2_getChar_3b067 47 = .ok (.iload_n 1, 1) := by decide +kernel
theorem dJ2_getChar_3b067_48 : decode cJ2_getChar_3b067 48 = .ok (.baload, 1) := by decide +kernel
theorem dJ2_getChar_3b067_49 : decode cJ2_getChar_3b067 49 = .ok (.sipush 255, 3) := by decide +kernel
theorem dJ2_getChar_3b067_52 : decode cJ2_getChar_3b067 52 = .ok (.iand, 1) := by decide +kernel
theorem dJ2_getChar_3b067_53 : decode cJ2_getChar_3b067 53 = .ok (.getstatic 63, 3) := by decide +kernel
theorem dJ2_getChar_3b067_56 : decode cJ2_getChar_3b067 56 = .ok (.ishl, 1) := by decide +kernel
theorem dJ2_getChar_3b067_57 : decode cJ2_getChar_3b067 57 = .ok (.ior, 1) := by decide +kernel
theorem dJ2_getChar_3b067_58 : decode cJ2_getChar_3b067 58 = .ok (.i2c, 1) := by decide +kernel
theorem dJ2_getChar_3b067_59 : decode cJ2_getChar_3b067 59 = .ok (.ireturn, 1) := by decide +kernel
theorem dJ2_length_9d52b_0 : decode cJ2_length_9d52b 0 = .ok (.aload_n 0, 1) := by decide +kernel
theorem dJ2_length_9d52b_1 : decode cJ2_length_9d52b 1 = .ok (.arraylength, 1) := by decide +kernel
theorem dJ2_length_9d52b_2 : decode cJ2_length_9d52b 2 = .ok (.iconst 1, 1) := by decide +kernel
theorem dJ2_length_9d52b_3 : decode cJ2_length_9d52b 3 = .ok (.ishr, 1) := by decide +kernel
theorem dJ2_length_9d52b_4 : decode cJ2_length_9d52b 4 = .ok (.ireturn, 1) := by decide +kernel
set_option maxRecDepth 20000 in
theorem ggJ2_charAt_3b067_J2_checkIndex_2214a : GoodIn wsJ2_charAt_3b067 wsJ2_checkIndex_2214a := goodIn_r _ [4, 5, 6, 3, 7, 8, 9, 10, 11, 12, 13, 14, 15, 16] (by decide +kernel) (by decide +kernel)
set_option maxRecDepth 20000 in
theorem gJ2_charAt_3b067_J2_checkIndex_2214a : GoodIn wsJ2_charAt_3b067 (va_wsS RJ2 67 yJ2_checkIndex_2214a wsJ2_checkIndex_2214a) := goodIn_app (goodIn_of _ (by decide +kernel)) ggJ2_charAt_3b067_J2_checkIndex_2214a
set_option maxRecDepth 20000 in
theorem ggJ2_charAt_3b067_J2_getChar_3b067 : GoodIn wsJ2_charAt_3b067 wsJ2_getChar_3b067 := goodIn_r _ [19, 20, 21, 22, 5, 6, 3, 7] (by decide +kernel) (by decide +kernel)
set_option maxRecDepth 20000 in
theorem gJ2_charAt_3b067_J2_getChar_3b067 : GoodIn wsJ2_charAt_3b067 (va_wsS RJ2 71 yJ2_getChar_3b067 wsJ2_getChar_3b067) := goodIn_app (goodIn_of _ (by decide +kernel)) ggJ2_charAt_3b067_J2_getChar_3b067
theorem dJ2_charAt_3b067_0 : decode cJ2_charAt_3b067 0 = .ok (.iload_n 1, 1) := by decide +kernel
theorem dJ2_charAt_3b067_1 : decode cJ2_charAt_3b067 1 = .ok (.aload_n 0, 1) := by decide +kernel
theorem dJ2_charAt_3b067_2 : decode cJ2_charAt_3b067 2 = .ok (.invokestatic 67, 3) := by decide +kernel
theorem dJ2_charAt_3b067_5 : decode cJ2_charAt_3b067 5 = .ok (.aload_n 0, 1) := by decide +kernel
theorem dJ2_charAt_3b067_6 : decode cJ2_charAt_3b067 6 = .ok (.iload_n 1, 1) := by decide +kernel
theorem dJ2_charAt_3b067_7 : decode cJ2_charAt_3b067 7 = .ok (.invokestatic 71, 3) := by decide +kernel
theorem dJ2_charAt_3b067_10 : decode cJ2_charAt_3b067 10 = .ok (.ireturn, 1) := by decide +kernel
set_option maxRecDepth 20000 in
theorem ggJ2_checkIndex_2214a_J2_length_9d52b : GoodIn wsJ2_checkIndex_2214a wsJ2_length_9d52b := goodIn_r _ [4] (by decide +kernel) (by decide +kernel)
set_option maxRecDepth 20000 in
theorem gJ2_checkIndex_2214a_J2_length_9d52b : GoodIn wsJ2_checkIndex_2214a (va_wsS RJ2 48 yJ2_length_9d52b wsJ2_length_9d52b) := goodIn_app (goodIn_of _ (by decide +kernel)) ggJ2_checkIndex_2214a_J2_length_9d52b
set_option maxRecDepth 20000 in
theorem ggJ2_checkIndex_2214a_J0_checkIndex_df160 : GoodIn wsJ2_checkIndex_2214a wsJ0_checkIndex_df160 := goodIn_r _ [8, 9, 10, 11, 12, 13] (by decide +kernel) (by decide +kernel)
set_option maxRecDepth 20000 in
theorem gJ2_checkIndex_2214a_J0_checkIndex_df160 : GoodIn wsJ2_checkIndex_2214a (va_wsS RJ2 414 yJ0_checkIndex_df160 wsJ0_checkIndex_df160) := goodIn_app (goodIn_of _ (by decide +kernel)) ggJ2_checkIndex_2214a_J0_checkIndex_df160
theorem dJ2_checkIndex_2214a_0 : decode cJ2_checkIndex_2214a 0 = .ok (.iload_n 0, 1) := by decide +kernel
theorem dJ2_checkIndex_2214a_1 : decode cJ2_checkIndex_2214a 1 = .ok (.aload_n 1, 1) := by decide +kernel
theorem dJ2_checkIndex_2214a_2 : decode cJ2_checkIndex_2214a 2 = .ok (.invokestatic 48, 3) := by decide +kernel
theorem dJ2_checkIndex_2214a_5 : decode cJ2_checkIndex_2214a 5 = .ok (.invokestatic 414, 3) := by decide +kernel
theorem dJ2_checkIndex_2214a_8 : decode cJ2_checkIndex_2214a 8 = .ok (.return_, 1) := by decide +kernel
theorem dJxa1e45_init_da8c8_0 : decode cJxa1e45_init_da8c8 0 = .ok (.aload_n 0, 1) := by decide +kernel
theorem dJxa1e45_init_da8c8_1 : decode cJxa1e45_init_da8c8 1 = .ok (.invokespecial 1, 3) := by decide +kernel
theorem dJxa1e45_init_da8c8_4 : decode cJxa1e45_init_da8c8 4 = .ok (.return_, 1) := by decide +kernel
set_option maxRecDepth 20000 in
theorem ggJxc12de_init_da8c8_Jxa1e45_init_da8c8 : GoodIn wsJxc12de_init_da8c8 wsJxa1e45_init_da8c8 := goodIn_r _ [5, 6, 7, 8] (by decide +kernel) (by decide +kernel)
set_option maxRecDepth 20000 in
theorem gJxc12de_init_da8c8_Jxa1e45_init_da8c8 : GoodIn wsJxc12de_init_da8c8 (wsJxa1e45_init_da8c8) := ggJxc12de_init_da8c8_Jxa1e45_init_da8c8
theorem dJxc12de_init_da8c8_0 : decode cJxc12de_init_da8c8 0 = .ok (.aload_n 0, 1) := by decide +kernel
theorem dJxc12de_init_da8c8_1 : decode cJxc12de_init_da8c8 1 = .ok (.invokespecial 1, 3) := by decide +kernel
theorem dJxc12de_init_da8c8_4 : decode cJxc12de_init_da8c8 4 = .ok (.aload_n 0, 1) := by decide +kernel
theorem dJxc12de_init_da8c8_5 : decode cJxc12de_init_da8c8 5 = .ok (.iconst 0, 1) := by decide +kernel
theorem dJxc12de_init_da8c8_6 : decode cJxc12de_init_da8c8 6 = .ok (.putfield 7, 3) := by decide +kernel
theorem dJxc12de_init_da8c8_9 : decode cJxc12de_init_da8c8 9 = .ok (.return_, 1) := by decide +kernel
set_option maxRecDepth 20000 in
theorem ggJx4a65c_init_da8c8_Jxc12de_init_da8c8 : GoodIn wsJx4a65c_init_da8c8 wsJxc12de_init_da8c8 := goodIn_r _ [6, 7, 8, 9, 10, 11, 12, 13, 14, 15, 16, 17] (by decide +kernel) (by decide +kernel)
set_option maxRecDepth 20000 in
theorem gJx4a65c_init_da8c8_Jxc12de_init_da8c8 : GoodIn wsJx4a65c_init_da8c8 (wsJxc12de_init_da8c8) := ggJx4a65c_init_da8c8_Jxc12de_init_da8c8
theorem dJx4a65c_init_da8c8_0 : decode cJx4a65c_init_da8c8 0 = .ok (.aload_n 0, 1) := by decide +kernel
theorem dJx4a65c_init_da8c8_1 : decode cJx4a65c_init_da8c8 1 = .ok (.invokespecial 1, 3) := by decide +kernel
theorem dJx4a65c_init_da8c8_4 : decode cJx4a65c_init_da8c8 4 = .ok (.aload_n 0, 1) := by decide +kernel
theorem dJx4a65c_init_da8c8_5 : decode cJx4a65c_init_da8c8 5 = .ok (.getstatic 39, 3) := by decide +kernel
theorem dJx4a65c_init_da8c8_8 : decode cJx4a65c_init_da8c8 8 = .ok (.putfield 9, 3) := by decide +kernel
theorem dJx4a65c_init_da8c8_11 : decode cJx4a65c_init_da8c8 11 = .ok (.return_, 1) := by decide +kernel
set_option maxRecDepth 20000 in
theorem ggJx4a65c_grow_92f84_J8_newLength_cabcc : GoodIn wsJx4a65c_grow_92f84 wsJ8_newLength_cabcc := goodIn_r _ [11, 12, 4, 5, 6, 13, 14, 15, 10, 16] (by decide +kernel) (by decide +kernel)
set_option maxRecDepth 20000 in
theorem gJx4a65c_grow_92f84_J8_newLength_cabcc : GoodIn wsJx4a65c_grow_92f84 (va_wsS RJx4a65c 73 yJ8_newLength_cabcc wsJ8_newLength_cabcc) := goodIn_app (goodIn_of _ (by decide +kernel)) ggJx4a65c_grow_92f84_J8_newLength_cabcc
set_option maxRecDepth 20000 in
theorem ggJx4a65c_grow_92f84_J7_copyOf_1904c : GoodIn wsJx4a65c_grow_92f84 wsJ7_copyOf_1904c := goodIn_r _ [20, 21, 22, 23, 24, 25, 26, 19, 27, 28, 29, 30, 31, 5, 32, 33, 34, 35, 36] (by decide +kernel) (by decide +kernel)
set_option maxRecDepth 20000 in
theorem gJx4a65c_grow_92f84_J7_copyOf_1904c : GoodIn wsJx4a65c_grow_92f84 (va_wsS RJx4a65c 66 yJ7_copyOf_1904c wsJ7_copyOf_1904c) := goodIn_app (goodIn_of _ (by decide +kernel)) ggJx4a65c_grow_92f84_J7_copyOf_1904c
theorem dJx4a65c_grow_92f84_0 : decode cJx4a65c_grow_92f84 0 = .ok (.aload_n 0, 1) := by decide +kernel
theorem dJx4a65c_grow_92f84_1 : decode cJx4a65c_grow_92f84 1 = .ok (.getfield 9, 3) := by decide +kernel
theorem dJx4a65c_grow_92f84_4 : decode cJx4a65c_grow_92f84 4 = .ok (.arraylength, 1) := by decide +kernel
theorem dJx4a65c_grow_92f84_5 : decode cJx4a65c_grow_92f84 5 = .ok (.istore_n 2, 1) := by decide +kernel
theorem dJx4a65c_grow_92f84_6 : decode cJx4a65c_grow_92f84 6 = .ok (.iload_n 2, 1) := by decide +kernel
theorem dJx4a65c_grow_92f84_7 : decode cJx4a65c_grow_92f84 7 = .ok (.ifCond .gt 13, 3) := by decide +kernel
theorem dJx4a65c_grow_92f84_10 : decode cJx4a65c_grow_92f84 10 = .ok (.aload_n 0, 1) := by decide +kernel
theorem dJx4a65c_grow_92f84_11 : decode cJx4a65c_grow_92f84 11 = .ok (.getfield 9, 3) := by decide +kernel
theorem dJx4a65c_grow_92f84_14 : decode cJx4a65c_grow_92f84 14 = .ok (.getstatic 39, 3) := by decide +kernel
theorem dJx4a65c_grow_92f84_17 : decode cJx4a65c_grow_92f84 17 = .ok (.if_acmp .eq 28, 3) := by decide +kernel
theorem dJx4a65c_grow_92f84_20 : decode cJx4a65c_grow_92f84 20 = .ok (.iload_n 2, 1) := by decide +kernel
theorem dJx4a65c_grow_92f84_21 : decode cJx4a65c_grow_92f84 21 = .ok (.iload_n 1, 1) := by decide +kernel
theorem dJx4a65c_grow_92f84_22 : decode cJx4a65c_grow_92f84 22 = .ok (.iload_n 2, 1) := by decide +kernel
theorem dJx4a65c_grow_92f84_23 : decode cJx4a65c_grow_92f84 23 = .ok (.isub, 1) := by decide +kernel
theorem dJx4a65c_grow_92f84_24 : decode cJx4a65c_grow_92f84 24 = .ok (.iload_n 2, 1) := by decide +kernel
theorem dJx4a65c_grow_92f84_25 : decode cJx4a65c_grow_92f84 25 = .ok (.iconst 1, 1) := by decide +kernel
theorem dJx4a65c_grow_92f84_26 : decode cJx4a65c_grow_92f84 26 = .ok (.ishr, 1) := by decide +kernel
theorem dJx4a65c_grow_92f84_27 : decode cJx4a65c_grow_92f84 27 = .ok (.invokestatic 73, 3) := by decide +kernel
theorem dJx4a65c_grow_92f84_30 : decode cJx4a65c_grow_92f84 30 = .ok (.istore_n 3, 1) := by decide +kernel
theorem dJx4a65c_grow_92f84_31 : decode cJx4a65c_grow_92f84 31 = .ok (.aload_n 0, 1) := by decide +kernel
theorem dJx4a65c_grow_92f84_32 : decode cJx4a65c_grow_92f84 32 = .ok (.aload_n 0, 1) := by decide +kernel
theorem dJx4a65c_grow_92f84_33 : decode cJx4a65c_grow_92f84 33 = .ok (.getfield 9, 3) := by decide +kernel
theorem dJx4a65c_grow_92f84_36 : decode cJx4a65c_grow_92f84 36 = .ok (.iload_n 3, 1) := by decide +kernel
theorem dJx4a65c_grow_92f84_37 : decode cJx4a65c_grow_92f84 37 = .ok (.invokestatic 66, 3) := by decide +kernel
theorem dJx4a65c_grow_92f84_40 : decode cJx4a65c_grow_92f84 40 = .ok (.dup_x1, 1) := by decide +kernel
theorem dJx4a65c_grow_92f84_41 : decode cJx4a65c_grow_92f84 41 = .ok (.putfield 9, 3) := by decide +kernel
theorem dJx4a65c_grow_92f84_44 : decode cJx4a65c_grow_92f84 44 = .ok (.areturn, 1) := by decide +kernel
theorem dJx4a65c_grow_92f84_45 : decode cJx4a65c_grow_92f84 45 = .ok (.aload_n 0, 1) := by decide +kernel
theorem dJx4a65c_grow_92f84_46 : decode cJx4a65c_grow_92f84 46 = .ok (.bipush 10, 2) := by decide +kernel
theorem dJx4a65c_grow_92f84_48 : decode cJx4a65c_grow_92f84 48 = .ok (.iload_n 1, 1) := by decide +kernel
theorem dJx4a65c_grow_92f84_49 : decode cJx4a65c_grow_92f84 49 = .ok (.invokestatic 79, 3) := by decide +kernel
theorem dJx4a65c_grow_92f84_52 : decode cJx4a65c_grow_92f84 52 = .ok (.anewarray 7, 3) := by decide +kernel
theorem dJx4a65c_grow_92f84_55 : decode cJx4a65c_grow_92f84 55 = .ok (.dup_x1, 1) := by decide +kernel
theorem dJx4a65c_grow_92f84_56 : decode cJx4a65c_grow_92f84 56 = .ok (.putfield 9, 3) := by decide +kernel
theorem dJx4a65c_grow_92f84_59 : decode cJx4a65c_grow_92f84 59 = .ok (.areturn, 1) := by decide +kernel
set_option maxRecDepth 20000 in
theorem ggJx4a65c_grow_d5877_Jx4a65c_grow_92f84 : GoodIn wsJx4a65c_grow_d5877 wsJx4a65c_grow_92f84 := goodIn_r _ [6, 7, 8, 9, 10, 11, 12, 13, 14, 15, 16, 17, 18, 19, 20, 21, 22, 23, 24, 25, 26, 27, 28, 29, 30, 31, 32, 33, 34, 35, 36, 37, 38, 39, 40, 41, 42, 43, 44, 45] (by decide +kernel) (by decide +kernel)
set_option maxRecDepth 20000 in
theorem gJx4a65c_grow_d5877_Jx4a65c_grow_92f84 : GoodIn wsJx4a65c_grow_d5877 (wsV RJx4a65c 69 RJx4a65c yJx4a65c_grow_92f84 wsJx4a65c_grow_92f84) := goodIn_app (goodIn_of _ (by decide +kernel)) ggJx4a65c_grow_d5877_Jx4a65c_grow_92f84
theorem dJx4a65c_grow_d5877_0 : decode cJx4a65c_grow_d5877 0 = .ok (.aload_n 0, 1) := by decide +kernel
theorem dJx4a65c_grow_d5877_1 : decode cJx4a65c_grow_d5877 1 = .ok (.aload_n 0, 1) := by decide +kernel
theorem dJx4a65c_grow_d5877_2 : decode cJx4a65c_grow_d5877 2 = .ok (.getfield 48, 3) := by decide +kernel
theorem dJx4a65c_grow_d5877_5 : decode cJx4a65c_grow_d5877 5 = .ok (.iconst 1, 1) := by decide +kernel
theorem dJx4a65c_grow_d5877_6 : decode cJx4a65c_grow_d5877 6 = .ok (.iadd, 1) := by decide +kernel
theorem dJx4a65c_grow_d5877_7 : decode cJx4a65c_grow_d5877 7 = .ok (.invokevirtual 69, 3) := by decide +kernel
theorem dJx4a65c_grow_d5877_10 : decode cJx4a65c_grow_d5877 10 = .ok (.areturn, 1) := by decide +kernel
theorem dJx4a65c_size_8abf5_0 : decode cJx4a65c_size_8abf5 0 = .ok (.aload_n 0, 1) := by decide +kernel
theorem dJx4a65c_size_8abf5_1 : decode cJx4a65c_size_8abf5 1 = .ok (.getfield 48, 3) := by decide +kernel
theorem dJx4a65c_size_8abf5_4 : decode cJx4a65c_size_8abf5 4 = .ok (.ireturn, 1) := by decide +kernel
theorem dJx4a65c_isEmpty_aae02_0 : decode cJx4a65c_isEmpty_aae02 0 = .ok (.aload_n 0, 1) := by decide +kernel
theorem dJx4a65c_isEmpty_aae02_1 : decode cJx4a65c_isEmpty_aae02 1 = .ok (.getfield 48, 3) := by decide +kernel
theorem dJx4a65c_isEmpty_aae02_4 : decode cJx4a65c_isEmpty_aae02 4 = .ok (.ifCond .ne 7, 3) := by decide +kernel
theorem dJx4a65c_isEmpty_aae02_7 : decode cJx4a65c_isEmpty_aae02 7 = .ok (.iconst 1, 1) := by decide +kernel
theorem dJx4a65c_isEmpty_aae02_8 : decode cJx4a65c_isEmpty_aae02 8 = .ok (.goto 4, 3) := by decide +kernel
theorem dJx4a65c_isEmpty_aae02_11 : decode cJx4a65c_isEmpty_aae02 11 = .ok (.iconst 0, 1) := by decide +kernel
theorem dJx4a65c_isEmpty_aae02_12 : decode cJx4a65c_isEmpty_aae02 12 = .ok (.ireturn, 1) := by decide +kernel
theorem dJx4a65c_elementData_915e3_0 : decode cJx4a65c_elementData_915e3 0 = .ok (.aload_n 0, 1) := by decide +kernel
theorem dJx4a65c_elementData_915e3_1 : decode cJx4a65c_elementData_915e3 1 = .ok (.getfield 9, 3) := by decide +kernel
theorem dJx4a65c_elementData_915e3_4 : decode cJx4a65c_elementData_915e3 4 = .ok (.iload_n 1, 1) := by decide +kernel
theorem dJx4a65c_elementData_915e3_5 : decode cJx4a65c_elementData_915e3 5 = .ok (.aaload, 1) := by decide +kernel
theorem dJx4a65c_elementData_915e3_6 : decode cJx4a65c_elementData_915e3 6 = .ok (.areturn, 1) := by decide +kernel
set_option maxRecDepth 20000 in
theorem ggJx4a65c_get_915e3_J15_checkIndex_7cf53 : GoodIn wsJx4a65c_get_915e3 wsJ15_checkIndex_7cf53 := goodIn_r _ [5, 6, 7, 8, 9] (by decide +kernel) (by decide +kernel)
set_option maxRecDepth 20000 in
theorem gJx4a65c_get_915e3_J15_checkIndex_7cf53 : GoodIn wsJx4a65c_get_915e3 (va_wsS RJx4a65c 118 yJ15_checkIndex_7cf53 wsJ15_checkIndex_7cf53) := goodIn_app (goodIn_of _ (by decide +kernel)) ggJx4a65c_get_915e3_J15_checkIndex_7cf53
set_option maxRecDepth 20000 in
theorem ggJx4a65c_get_915e3_Jx4a65c_elementData_915e3 : GoodIn wsJx4a65c_get_915e3 wsJx4a65c_elementData_915e3 := goodIn_r _ [14, 15, 16, 17, 18] (by decide +kernel) (by decide +kernel)
set_option maxRecDepth 20000 in
theorem gJx4a65c_get_915e3_Jx4a65c_elementData_915e3 : GoodIn wsJx4a65c_get_915e3 (wsV RJx4a65c 123 RJx4a65c yJx4a65c_elementData_915e3 wsJx4a65c_elementData_915e3) := goodIn_app (goodIn_of _ (by decide +kernel)) ggJx4a65c_get_915e3_Jx4a65c_elementData_915e3
theorem dJx4a65c_get_915e3_0 : decode cJx4a65c_get_915e3 0 = .ok (.iload_n 1, 1) := by decide +kernel
theorem dJx4a65c_get_915e3_1 : decode cJx4a65c_get_915e3 1 = .ok (.aload_n 0, 1) := by decide +kernel
theorem dJx4a65c_get_915e3_2 : decode cJx4a65c_get_915e3 2 = .ok (.getfield 48, 3) := by decide +kernel
theorem dJx4a65c_get_915e3_5 : decode cJx4a65c_get_915e3 5 = .ok (.invokestatic 118, 3) := by decide +kernel
theorem dJx4a65c_get_915e3_8 : decode cJx4a65c_get_915e3 8 = .ok (.pop, 1) := by decide +kernel
theorem dJx4a65c_get_915e3_9 : decode cJx4a65c_get_915e3 9 = .ok (.aload_n 0, 1) := by decide +kernel
theorem dJx4a65c_get_915e3_10 : decode cJx4a65c_get_915e3 10 = .ok (.iload_n 1, 1) := by decide +kernel
theorem dJx4a65c_get_915e3_11 : decode cJx4a65c_get_915e3 11 = .ok (.invokevirtual 123, 3) := by decide +kernel
theorem dJx4a65c_get_915e3_14 : decode cJx4a65c_get_915e3 14 = .ok (.areturn, 1) := by decide +kernel
set_option maxRecDepth 20000 in
theorem ggJx4a65c_add_72be8_Jx4a65c_grow_d5877 : GoodIn wsJx4a65c_add_72be8 wsJx4a65c_grow_d5877 := goodIn_r _ [6, 1, 7, 8, 9, 5, 10, 11, 12, 13, 14, 15, 16, 17, 18, 19, 20, 21, 22, 23, 24, 25, 26, 27, 28, 29, 30, 31, 32, 33, 34, 35, 36, 37, 38, 39, 40, 41, 42, 43, 44, 45, 46, 47, 48, 49] (by decide +kernel) (by decide +kernel)
set_option maxRecDepth 20000 in
theorem gJx4a65c_add_72be8_Jx4a65c_grow_d5877 : GoodIn wsJx4a65c_add_72be8 (wsV RJx4a65c 129 RJx4a65c yJx4a65c_grow_d5877 wsJx4a65c_grow_d5877) := goodIn_app (goodIn_of _ (by decide +kernel)) ggJx4a65c_add_72be8_Jx4a65c_grow_d5877
theorem dJx4a65c_add_72be8_0 : decode cJx4a65c_add_72be8 0 = .ok (.iload_n 3, 1) := by decide +kernel
theorem dJx4a65c_add_72be8_1 : decode cJx4a65c_add_72be8 1 = .ok (.aload_n 2, 1) := by decide +kernel
theorem dJx4a65c_add_72be8_2 : decode cJx4a65c_add_72be8 2 = .ok (.arraylength, 1) := by decide +kernel
theorem dJx4a65c_add_72be8_3 : decode cJx4a65c_add_72be8 3 = .ok (.if_icmp .ne 8, 3) := by decide +kernel
theorem dJx4a65c_add_72be8_6 : decode cJx4a65c_add_72be8 6 = .ok (.aload_n 0, 1) := by decide +kernel
theorem dJx4a65c_add_72be8_7 : decode cJx4a65c_add_72be8 7 = .ok (.invokevirtual 129, 3) := by decide +kernel
theorem dJx4a65c_add_72be8_10 : decode cJx4a65c_add_72be8 10 = .ok (.astore_n 2, 1) := by decide +kernel
theorem dJx4a65c_add_72be8_11 : decode cJx4a65c_add_72be8 11 = .ok (.aload_n 2, 1) := by decide +kernel
theorem dJx4a65c_add_72be8_12 : decode cJx4a65c_add_72be8 12 = .ok (.iload_n 3, 1) := by decide +kernel
theorem dJx4a65c_add_72be8_13 : decode cJx4a65c_add_72be8 13 = .ok (.aload_n 1, 1) := by decide +kernel
theorem dJx4a65c_add_72be8_14 : decode cJx4a65c_add_72be8 14 = .ok (.aastore, 1) := by decide +kernel
theorem dJx4a65c_add_72be8_15 : decode cJx4a65c_add_72be8 15 = .ok (.aload_n 0, 1) := by decide +kernel
theorem dJx4a65c_add_72be8_16 : decode cJx4a65c_add_72be8 16 = .ok (.iload_n 3, 1) := by decide +kernel
theorem dJx4a65c_add_72be8_17 : decode cJx4a65c_add_72be8 17 = .ok (.iconst 1, 1) := by decide +kernel
theorem dJx4a65c_add_72be8_18 : decode cJx4a65c_add_72be8 18 = .ok (.iadd, 1) := by decide +kernel
theorem dJx4a65c_add_72be8_19 : decode cJx4a65c_add_72be8 19 = .ok (.putfield 48, 3) := by decide +kernel
theorem dJx4a65c_add_72be8_22 : decode cJx4a65c_add_72be8 22 = .ok (.return_, 1) := by decide +kernel
set_option maxRecDepth 20000 in
theorem ggJx4a65c_add_9ea2d_Jx4a65c_add_72be8 : GoodIn wsJx4a65c_add_9ea2d wsJx4a65c_add_72be8 := goodIn_r _ [9, 4, 10, 11, 12, 8, 13, 14, 15, 16, 17, 3, 18, 19, 20, 21, 22, 23, 24, 25, 26, 27, 28, 29, 30, 31, 32, 33, 34, 35, 36, 37, 38, 39, 40, 41, 42, 43, 44, 45, 46, 47, 48, 49, 50, 51, 52, 53, 54, 55] (by decide +kernel) (by decide +kernel)
set_option maxRecDepth 20000 in
theorem gJx4a65c_add_9ea2d_Jx4a65c_add_72be8 : GoodIn wsJx4a65c_add_9ea2d (wsV RJx4a65c 131 RJx4a65c yJx4a65c_add_72be8 wsJx4a65c_add_72be8) := goodIn_app (goodIn_of _ (by decide +kernel)) ggJx4a65c_add_9ea2d_Jx4a65c_add_72be8
theorem dJx4a65c_add_9ea2d_0 : decode cJx4a65c_add_9ea2d 0 = .ok (.aload_n 0, 1) := by decide +kernel
theorem dJx4a65c_add_9ea2d_1 : decode cJx4a65c_add_9ea2d 1 = .ok (.dup, 1) := by decide +kernel
theorem dJx4a65c_add_9ea2d_2 : decode cJx4a65c_add_9ea2d 2 = .ok (.getfield 63, 3) := by decide +kernel
theorem dJx4a65c_add_9ea2d_5 : decode cJx4a65c_add_9ea2d 5 = .ok (.iconst 1, 1) := by decide +kernel
theorem dJx4a65c_add_9ea2d_6 : decode cJx4a65c_add_9ea2d 6 = .ok (.iadd, 1) := by decide +kernel
theorem dJx4a65c_add_9ea2d_7 : decode cJx4a65c_add_9ea2d 7 = .ok (.putfield 63, 3) := by decide +kernel
theorem dJx4a65c_add_9ea2d_10 : decode cJx4a65c_add_9ea2d 10 = .ok (.aload_n 0, 1) := by decide +kernel
theorem dJx4a65c_add_9ea2d_11 : decode cJx4a65c_add_9ea2d 11 = .ok (.aload_n 1, 1) := by decide +kernel
theorem dJx4a65c_add_9ea2d_12 : decode cJx4a65c_add_9ea2d 12 = .ok (.aload_n 0, 1) := by decide +kernel
theorem dJx4a65c_add_9ea2d_13 : decode cJx4a65c_add_9ea2d 13 = .ok (.getfield 9, 3) := by decide +kernel
theorem dJx4a65c_add_9ea2d_16 : decode cJx4a65c_add_9ea2d 16 = .ok (.aload_n 0, 1) := by decide +kernel
theorem dJx4a65c_add_9ea2d_17 : decode cJx4a65c_add_9ea2d 17 = .ok (.getfield 48, 3) := by decide +kernel
theorem dJx4a65c_add_9ea2d_20 : decode cJx4a65c_add_9ea2d 20 = .ok (.invokevirtual 131, 3) := by decide +kernel
theorem dJx4a65c_add_9ea2d_23 : decode cJx4a65c_add_9ea2d 23 = .ok (.iconst 1, 1) := by decide +kernel
theorem dJx4a65c_add_9ea2d_24 : decode cJx4a65c_add_9ea2d 24 = .ok (.ireturn, 1) := by decide +kernel
set_option maxRecDepth 20000 in
theorem ggJx4a65c_remove_915e3_J15_checkIndex_7cf53 : GoodIn wsJx4a65c_remove_915e3 wsJ15_checkIndex_7cf53 := goodIn_r _ [6, 7, 8, 9, 10] (by decide +kernel) (by decide +kernel)
set_option maxRecDepth 20000 in
theorem gJx4a65c_remove_915e3_J15_checkIndex_7cf53 : GoodIn wsJx4a65c_remove_915e3 (va_wsS RJx4a65c 118 yJ15_checkIndex_7cf53 wsJ15_checkIndex_7cf53) := goodIn_app (goodIn_of _ (by decide +kernel)) ggJx4a65c_remove_915e3_J15_checkIndex_7cf53
set_option maxRecDepth 20000 in
theorem ggJx4a65c_remove_915e3_Jx4a65c_fastRemove_b59b0 : GoodIn wsJx4a65c_remove_915e3 wsJx4a65c_fastRemove_b59b0 := goodIn_r _ [15, 16, 17, 1, 18, 19, 20, 21, 22, 23, 24] (by decide +kernel) (by decide +kernel)
set_option maxRecDepth 20000 in
theorem gJx4a65c_remove_915e3_Jx4a65c_fastRemove_b59b0 : GoodIn wsJx4a65c_remove_915e3 (wsV RJx4a65c 144 RJx4a65c yJx4a65c_fastRemove_b59b0 wsJx4a65c_fastRemove_b59b0) := goodIn_app (goodIn_of _ (by decide +kernel)) ggJx4a65c_remove_915e3_Jx4a65c_fastRemove_b59b0
theorem dJx4a65c_remove_915e3_0 : decode cJx4a65c_remove_915e3 0 = .ok (.iload_n 1, 1) := by decide +kernel
theorem dJx4a65c_remove_915e3_1 : decode cJx4a65c_remove_915e3 1 = .ok (.aload_n 0, 1) := by decide +kernel
theorem dJx4a65c_remove_915e3_2 : decode cJx4a65c_remove_915e3 2 = .ok (.getfield 48, 3) := by decide +kernel
theorem dJx4a65c_remove_915e3_5 : decode cJx4a65c_remove_915e3 5 = .ok (.invokestatic 118, 3) := by decide +kernel
theorem dJx4a65c_remove_915e3_8 : decode cJx4a65c_remove_915e3 8 = .ok (.pop, 1) := by decide +kernel
theorem dJx4a65c_remove_915e3_9 : decode cJx4a65c_remove_915e3 9 = .ok (.aload_n 0, 1) := by decide +kernel
theorem dJx4a65c_remove_915e3_10 : decode cJx4a65c_remove_915e3 10 = .ok (.getfield 9, 3) := by decide +kernel
theorem dJx4a65c_remove_915e3_13 : decode cJx4a65c_remove_915e3 13 = .ok (.astore_n 2, 1) := by decide +kernel
theorem dJx4a65c_remove_915e3_14 : decode cJx4a65c_remove_915e3 14 = .ok (.aload_n 2, 1) := by decide +kernel
theorem dJx4a65c_remove_915e3_15 : decode cJx4a65c_remove_915e3 15 = .ok (.iload_n 1, 1) := by decide +kernel
theorem dJx4a65c_remove_915e3_16 : decode cJx4a65c_remove_915e3 16 = .ok (.aaload, 1) := by decide +kernel
theorem dJx4a65c_remove_915e3_17 : decode cJx4a65c_remove_915e3 17 = .ok (.astore_n 3, 1) := by decide +kernel
theorem dJx4a65c_remove_915e3_18 : decode cJx4a65c_remove_915e3 18 = .ok (.aload_n 0, 1) := by decide +kernel
theorem dJx4a65c_remove_915e3_19 : decode cJx4a65c_remove_915e3 19 = .ok (.aload_n 2, 1) := by decide +kernel
theorem dJx4a65c_remove_915e3_20 : decode cJx4a65c_remove_915e3 20 = .ok (.iload_n 1, 1) := by decide +kernel
theorem dJx4a65c_remove_915e3_21 : decode cJx4a65c_remove_915e3 21 = .ok (.invokevirtual 144, 3) := by decide +kernel
theorem dJx4a65c_remove_915e3_24 : decode cJx4a65c_remove_915e3 24 = .ok (.aload_n 3, 1) := by decide +kernel
theorem dJx4a65c_remove_915e3_25 : decode cJx4a65c_remove_915e3 25 = .ok (.areturn, 1) := by decide +kernel
theorem dJx4a65c_fastRemove_b59b0_0 : decode cJx4a65c_fastRemove_b59b0 0 = .ok (.aload_n 0, 1) := by decide +kernel
theorem dJx4a65c_fastRemove_b59b0_1 : decode cJx4a65c_fastRemove_b59b0 1 = .ok (.dup, 1) := by decide +kernel
theorem dJx4a65c_fastRemove_b59b0_2 : decode cJx4a65c_fastRemove_b59b0 2 = .ok (.getfield 63, 3) := by decide +kernel
theorem dJx4a65c_fastRemove_b59b0_5 : decode cJx4a65c_fastRemove_b59b0 5 = .ok (.iconst 1, 1) := by decide +kernel
theorem dJx4a65c_fastRemove_b59b0_6 : decode cJx4a65c_fastRemove_b59b0 6 = .ok (.iadd, 1) := by decide +kernel
theorem dJx4a65c_fastRemove_b59b0_7 : decode cJx4a65c_fastRemove_b59b0 7 = .ok (.putfield 63, 3) := by decide +kernel
theorem dJx4a65c_fastRemove_b59b0_10 : decode cJx4a65c_fastRemove_b59b0 10 = .ok (.aload_n 0, 1) := by decide +kernel
theorem dJx4a65c_fastRemove_b59b0_11 : decode cJx4a65c_fastRemove_b59b0 11 = .ok (.getfield 48, 3) := by decide +kernel
theorem dJx4a65c_fastRemove_b59b0_14 : decode cJx4a65c_fastRemove_b59b0 14 = .ok (.iconst 1, 1) := by decide +kernel
theorem dJx4a65c_fastRemove_b59b0_15 : decode cJx4a65c_fastRemove_b59b0 15 = .ok (.isub, 1) := by decide +kernel
theorem dJx4a65c_fastRemove_b59b0_16 : decode cJx4a65c_fastRemove_b59b0 16 = .ok (.dup, 1) := by decide +kernel
theorem dJx4a65c_fastRemove_b59b0_17 : decode cJx4a65c_fastRemove_b59b0 17 = .ok (.istore_n 3, 1) := by decide +kernel
theorem dJx4a65c_fastRemove_b59b0_18 : decode cJx4a65c_fastRemove_b59b0 18 = .ok (.iload_n 2, 1) := by decide +kernel
theorem dJx4a65c_fastRemove_b59b0_19 : decode cJx4a65c_fastRemove_b59b0 19 = .ok (.if_icmp .le 15, 3) := by decide +kernel
theorem dJx4a65c_fastRemove_b59b0_22 : decode cJx4a65c_fastRemove_b59b0 22 = .ok (.aload_n 1, 1) := by decide +kernel
theorem dJx4a65c_fastRemove_b59b0_23 : decode cJx4a65c_fastRemove_b59b0 23 = .ok (.iload_n 2, 1) := by decide +kernel
theorem dJx4a65c_fastRemove_b59b0_24 : decode cJx4a65c_fastRemove_b59b0 24 = .ok (.iconst 1, 1) := by decide +kernel
theorem dJx4a65c_fastRemove_b59b0_25 : decode cJx4a65c_fastRemove_b59b0 25 = .ok (.iadd, 1) := by decide +kernel
theorem dJx4a65c_fastRemove_b59b0_26 : decode cJx4a65c_fastRemove_b59b0 26 = .ok (.aload_n 1, 1) := by decide +kernel
theorem dJx4a65c_fastRemove_b59b0_27 : decode cJx4a65c_fastRemove_b59b0 27 = .ok (.iload_n 2, 1) := by decide +kernel
theorem dJx4a65c_fastRemove_b59b0_28 : decode cJx4a65c_fastRemove_b59b0 28 = .ok (.iload_n 3, 1) := by decide +kernel
theorem dJx4a65c_fastRemove_b59b0_29 : decode cJx4a65c_fastRemove_b59b0 29 = .ok (.iload_n 2, 1) := by decide +kernel
theorem dJx4a65c_fastRemove_b59b0_30 : decode cJx4a65c_fastRemove_b59b0 30 = .ok (.isub, 1) := by decide +kernel
theorem dJx4a65c_fastRemove_b59b0_31 : decode cJx4a65c_fastRemove_b59b0 31 = .ok (.invokestatic 112, 3) := by decide +kernel
theorem dJx4a65c_fastRemove_b59b0_34 : decode cJx4a65c_fastRemove_b59b0 34 = .ok (.aload_n 1, 1) := by decide +kernel
theorem dJx4a65c_fastRemove_b59b0_35 : decode cJx4a65c_fastRemove_b59b0 35 = .ok (.aload_n 0, 1) := by decide +kernel
theorem dJx4a65c_fastRemove_b59b0_36 : decode cJx4a65c_fastRemove_b59b0 36 = .ok (.iload_n 3, 1) := by decide +kernel
theorem dJx4a65c_fastRemove_b59b0_37 : decode cJx4a65c_fastRemove_b59b0 37 = .ok (.dup_x1, 1) := by decide +kernel
theorem dJx4a65c_fastRemove_b59b0_38 : decode cJx4a65c_fastRemove_b59b0 38 = .ok (.putfield 48, 3) := by decide +kernel
theorem dJx4a65c_fastRemove_b59b0_41 : decode cJx4a65c_fastRemove_b59b0 41 = .ok (.aconst_null, 1) := by decide +kernel
theorem dJx4a65c_fastRemove_b59b0_42 : decode cJx4a65c_fastRemove_b59b0 42 = .ok (.aastore, 1) := by decide +kernel
theorem dJx4a65c_fastRemove_b59b0_43 : decode cJx4a65c_fastRemove_b59b0 43 = .ok (.return_, 1) := by decide +kernel
set_option maxRecDepth 20000 in
theorem ggJ7_copyOf_1904c_J7_copyOf_6403c : GoodIn wsJ7_copyOf_1904c wsJ7_copyOf_6403c := goodIn_r _ [8, 9, 10, 11, 12, 13, 14, 15, 16, 17, 18] (by decide +kernel) (by decide +kernel)
set_option maxRecDepth 20000 in
theorem gJ7_copyOf_1904c_J7_copyOf_6403c : GoodIn wsJ7_copyOf_1904c (va_wsS RJ7 300 yJ7_copyOf_6403c wsJ7_copyOf_6403c) := goodIn_app (goodIn_of _ (by decide +kernel)) ggJ7_copyOf_1904c_J7_copyOf_6403c
theorem dJ7_copyOf_1904c_0 : decode cJ7_copyOf_1904c 0 = .ok (.aload_n 0, 1) := by decide +kernel
theorem dJ7_copyOf_1904c_1 : decode cJ7_copyOf_1904c 1 = .ok (.iload_n 1, 1) := by decide +kernel
theorem dJ7_copyOf_1904c_2 : decode cJ7_copyOf_1904c 2 = .ok (.aload_n 0, 1) := by decide +kernel
theorem dJ7_copyOf_1904c_3 : decode cJ7_copyOf_1904c 3 = .ok (.invokevirtual 86, 3) := by decide +kernel
theorem dJ7_copyOf_1904c_6 : decode cJ7_copyOf_1904c 6 = .ok (.invokestatic 300, 3) := by decide +kernel
theorem dJ7_copyOf_1904c_9 : decode cJ7_copyOf_1904c 9 = .ok (.areturn, 1) := by decide +kernel
theorem dJ7_copyOf_6403c_0 : decode cJ7_copyOf_6403c 0 = .ok (.aload_n 2, 1) := by decide +kernel
theorem dJ7_copyOf_6403c_1 : decode cJ7_copyOf_6403c 1 = .ok (.ldc 110, 2) := by decide +kernel
theorem dJ7_copyOf_6403c_3 : decode cJ7_copyOf_6403c 3 = .ok (.if_acmp .ne 10, 3) := by decide +kernel
theorem dJ7_copyOf_6403c_6 : decode cJ7_copyOf_6403c 6 = .ok (.iload_n 1, 1) := by decide +kernel
theorem dJ7_copyOf_6403c_7 : decode cJ7_copyOf_6403c 7 = .ok (.anewarray 2, 3) := by decide +kernel
theorem dJ7_copyOf_6403c_10 : decode cJ7_copyOf_6403c 10 = .ok (.goto 14, 3) := by decide +kernel
theorem dJ7_copyOf_6403c_13 : decode cJ7_copyOf_6403c 13 = .ok (.aload_n 2, 1) := by decide +kernel
theorem dJ7_copyOf_6403c_14 : decode cJ7_copyOf_6403c 14 = .ok (.invokevirtual 90, 3) := by decide +kernel
theorem dJ7_copyOf_6403c_17 : decode cJ7_copyOf_6403c 17 = .ok (.iload_n 1, 1) := by decide +kernel
theorem dJ7_copyOf_6403c_18 : decode cJ7_copyOf_6403c 18 = .ok (.invokestatic 95, 3) := by decide +kernel
theorem dJ7_copyOf_6403c_21 : decode cJ7_copyOf_6403c 21 = .ok (.checkcast 110, 3) := by decide +kernel
theorem dJ7_copyOf_6403c_24 : decode cJ7_copyOf_6403c 24 = .ok (.astore_n 3, 1) := by decide +kernel
theorem dJ7_copyOf_6403c_25 : decode cJ7_copyOf_6403c 25 = .ok (.aload_n 0, 1) := by decide +kernel
theorem dJ7_copyOf_6403c_26 : decode cJ7_copyOf_6403c 26 = .ok (.iconst 0, 1) := by decide +kernel
theorem dJ7_copyOf_6403c_27 : decode cJ7_copyOf_6403c 27 = .ok (.aload_n 3, 1) := by decide +kernel
theorem dJ7_copyOf_6403c_28 : decode cJ7_copyOf_6403c 28 = .ok (.iconst 0, 1) := by decide +kernel
theorem dJ7_copyOf_6403c_29 : decode cJ7_copyOf_6403c 29 = .ok (.aload_n 0, 1) := by decide +kernel
theorem dJ7_copyOf_6403c_30 : decode cJ7_copyOf_6403c 30 = .ok (.arraylength, 1) := by decide +kernel
theorem dJ7_copyOf_6403c_31 : decode cJ7_copyOf_6403c 31 = .ok (.iload_n 1, 1) := by decide +kernel
theorem dJ7_copyOf_6403c_32 : decode cJ7_copyOf_6403c 32 = .ok (.invokestatic 304, 3) := by decide +kernel
theorem dJ7_copyOf_6403c_35 : decode cJ7_copyOf_6403c 35 = .ok (.invokestatic 150, 3) := by decide +kernel
theorem dJ7_copyOf_6403c_38 : decode cJ7_copyOf_6403c 38 = .ok (.aload_n 3, 1) := by decide +kernel
theorem dJ7_copyOf_6403c_39 : decode cJ7_copyOf_6403c 39 = .ok (.areturn, 1) := by decide +kernel
set_option maxRecDepth 20000 in
theorem ggJ15_checkIndex_7cf53_J3_checkIndex_8e157 : GoodIn wsJ15_checkIndex_7cf53 wsJ3_checkIndex_8e157 := goodIn_r _ [4] (by decide +kernel) (by decide +kernel)
set_option maxRecDepth 20000 in
theorem gJ15_checkIndex_7cf53_J3_checkIndex_8e157 : GoodIn wsJ15_checkIndex_7cf53 (va_wsS RJ15 105 yJ3_checkIndex_8e157 wsJ3_checkIndex_8e157) := goodIn_app (goodIn_of _ (by decide +kernel)) ggJ15_checkIndex_7cf53_J3_checkIndex_8e157
theorem dJ15_checkIndex_7cf53_0 : decode cJ15_checkIndex_7cf53 0 = .ok (.iload_n 0, 1) := by decide +kernel
theorem dJ15_checkIndex_7cf53_1 : decode cJ15_checkIndex_7cf53 1 = .ok (.iload_n 1, 1) := by decide +kernel
theorem dJ15_checkIndex_7cf53_2 : decode cJ15_checkIndex_7cf53 2 = .ok (.aconst_null, 1) := by decide +kernel
theorem dJ15_checkIndex_7cf53_3 : decode cJ15_checkIndex_7cf53 3 = .ok (.invokestatic 105, 3) := by decide +kernel
theorem dJ15_checkIndex_7cf53_6 : decode cJ15_checkIndex_7cf53 6 = .ok (.ireturn, 1) := by decide +kernel
set_option maxRecDepth 20000 in
theorem ggJ8_newLength_cabcc_J8_hugeLength_7cf53 : GoodIn wsJ8_newLength_cabcc wsJ8_hugeLength_7cf53 := goodIn_r _ [9, 5] (by decide +kernel) (by decide +kernel)
set_option maxRecDepth 20000 in
theorem gJ8_newLength_cabcc_J8_hugeLength_7cf53 : GoodIn wsJ8_newLength_cabcc (va_wsS RJ8 201 yJ8_hugeLength_7cf53 wsJ8_hugeLength_7cf53) := goodIn_app (goodIn_of _ (by decide +kernel)) ggJ8_newLength_cabcc_J8_hugeLength_7cf53
theorem dJ8_newLength_cabcc_0 : decode cJ8_newLength_cabcc 0 = .ok (.iload_n 0, 1) := by decide +kernel
theorem dJ8_newLength_cabcc_1 : decode cJ8_newLength_cabcc 1 = .ok (.iload_n 1, 1) := by decide +kernel
theorem dJ8_newLength_cabcc_2 : decode cJ8_newLength_cabcc 2 = .ok (.iload_n 2, 1) := by decide +kernel
theorem dJ8_newLength_cabcc_3 : decode cJ8_newLength_cabcc 3 = .ok (.invokestatic 194, 3) := by decide +kernel
theorem dJ8_newLength_cabcc_6 : decode cJ8_newLength_cabcc 6 = .ok (.iadd, 1) := by decide +kernel
theorem dJ8_newLength_cabcc_7 : decode cJ8_newLength_cabcc 7 = .ok (.istore_n 3, 1) := by decide +kernel
theorem dJ8_newLength_cabcc_8 : decode cJ8_newLength_cabcc 8 = .ok (.iconst 0, 1) := by decide +kernel
theorem dJ8_newLength_cabcc_9 : decode cJ8_newLength_cabcc 9 = .ok (.iload_n 3, 1) := by decide +kernel
theorem dJ8_newLength_cabcc_10 : decode cJ8_newLength_cabcc 10 = .ok (.if_icmp .ge 11, 3) := by decide +kernel
theorem dJ8_newLength_cabcc_13 : decode cJ8_newLength_cabcc 13 = .ok (.iload_n 3, 1) := by decide +kernel
theorem dJ8_newLength_cabcc_14 : decode cJ8_newLength_cabcc 14 = .ok (.ldc 200, 2) := by decide +kernel
theorem dJ8_newLength_cabcc_16 : decode cJ8_newLength_cabcc 16 = .ok (.if_icmp .gt 5, 3) := by decide +kernel
theorem dJ8_newLength_cabcc_19 : decode cJ8_newLength_cabcc 19 = .ok (.iload_n 3, 1) := by decide +kernel
theorem dJ8_newLength_cabcc_20 : decode cJ8_newLength_cabcc 20 = .ok (.ireturn, 1) := by decide +kernel
theorem dJ8_newLength_cabcc_21 : decode cJ8_newLength_cabcc 21 = .ok (.iload_n 0, 1) := by decide +kernel
theorem dJ8_newLength_cabcc_22 : decode cJ8_newLength_cabcc 22 = .ok (.iload_n 1, 1) := by decide +kernel
theorem dJ8_newLength_cabcc_23 : decode cJ8_newLength_cabcc 23 = .ok (.invokestatic 201, 3) := by decide +kernel
theorem dJ8_newLength_cabcc_26 : decode cJ8_newLength_cabcc 26 = .ok (.ireturn, 1) := by decide +kernel
theorem dJ8_hugeLength_7cf53_0 : decode cJ8_hugeLength_7cf53 0 = .ok (.iload_n 0, 1) := by decide +kernel
theorem dJ8_hugeLength_7cf53_1 : decode cJ8_hugeLength_7cf53 1 = .ok (.iload_n 1, 1) := by decide +kernel
theorem dJ8_hugeLength_7cf53_2 : decode cJ8_hugeLength_7cf53 2 = .ok (.iadd, 1) := by decide +kernel
theorem dJ8_hugeLength_7cf53_3 : decode cJ8_hugeLength_7cf53 3 = .ok (.istore_n 2, 1) := by decide +kernel
theorem dJ8_hugeLength_7cf53_4 : decode cJ8_hugeLength_7cf53 4 = .ok (.iload_n 2, 1) := by decide +kernel
theorem dJ8_hugeLength_7cf53_5 : decode cJ8_hugeLength_7cf53 5 = .ok (.ifCond .ge 44, 3) := by decide +kernel
theorem dJ8_hugeLength_7cf53_8 : decode cJ8_hugeLength_7cf53 8 = .ok (.new 204, 3) := by decide +kernel
theorem dJ8_hugeLength_7cf53_11 : decode cJ8_hugeLength_7cf53 11 = .ok (.dup, 1) := by decide +kernel
theorem dJ8_hugeLength_7cf53_12 : decode cJ8_hugeLength_7cf53 12 = .ok (.new 89, 3) := by decide +kernel
theorem dJ8_hugeLength_7cf53_15 : decode cJ8_hugeLength_7cf53 15 = .ok (.dup, 1) := by decide +kernel
theorem dJ8_hugeLength_7cf53_16 : decode cJ8_hugeLength_7cf53 16 = .ok (.invokespecial 91, 3) := by decide +kernel
theorem dJ8_hugeLength_7cf53_19 : decode cJ8_hugeLength_7cf53 19 = .ok (.ldc 206, 2) := by decide +kernel
theorem dJ8_hugeLength_7cf53_21 : decode cJ8_hugeLength_7cf53 21 = .ok (.invokevirtual 94, 3) := by decide +kernel
theorem dJ8_hugeLength_7cf53_24 : decode cJ8_hugeLength_7cf53 24 = .ok (.iload_n 0, 1) := by decide +kernel
theorem dJ8_hugeLength_7cf53_25 : decode cJ8_hugeLength_7cf53 25 = .ok (.invokevirtual 98, 3) := by decide +kernel
theorem dJ8_hugeLength_7cf53_28 : decode cJ8_hugeLength_7cf53 28 = .ok (.ldc 208, 2) := by decide +kernel
theorem dJ8_hugeLength_7cf53_30 : decode cJ8_hugeLength_7cf53 30 = .ok (.invokevirtual 94, 3) := by decide +kernel
theorem dJ8_hugeLength_7cf53_33 : decode cJ8_hugeLength_7cf53 33 = .ok (.iload_n 1, 1) := by decide +kernel
theorem dJ8_hugeLength_7cf53_34 : decode cJ8_hugeLength_7cf53 34 = .ok (.invokevirtual 98, 3) := by decide +kernel
theorem dJ8_hugeLength_7cf53_37 : decode cJ8_hugeLength_7cf53 37 = .ok (.ldc 210, 2) := by decide +kernel
theorem dJ8_hugeLength_7cf53_39 : decode cJ8_hugeLength_7cf53 39 = .ok (.invokevirtual 94, 3) := by decide +kernel
theorem dJ8_hugeLength_7cf53_42 : decode cJ8_hugeLength_7cf53 42 = .ok (.invokevirtual 101, 3) := by decide +kernel
theorem dJ8_hugeLength_7cf53_45 : decode cJ8_hugeLength_7cf53 45 = .ok (.invokespecial 212, 3) := by decide +kernel
theorem dJ8_hugeLength_7cf53_48 : decode cJ8_hugeLength_7cf53 48 = .ok (.athrow, 1) := by decide +kernel
theorem dJ8_hugeLength_7cf53_49 : decode cJ8_hugeLength_7cf53 49 = .ok (.iload_n 2, 1) := by decide +kernel
theorem dJ8_hugeLength_7cf53_50 : decode cJ8_hugeLength_7cf53 50 = .ok (.ldc 200, 2) := by decide +kernel
theorem dJ8_hugeLength_7cf53_52 : decode cJ8_hugeLength_7cf53 52 = .ok (.if_icmp .gt 6, 3) := by decide +kernel
theorem dJ8_hugeLength_7cf53_55 : decode cJ8_hugeLength_7cf53 55 = .ok (.ldc 200, 2) := by decide +kernel
theorem dJ8_hugeLength_7cf53_57 : decode cJ8_hugeLength_7cf53 57 = .ok (.ireturn, 1) := by decide +kernel
theorem dJ8_hugeLength_7cf53_58 : decode cJ8_hugeLength_7cf53 58 = .ok (.iload_n 2, 1) := by decide +kernel
theorem dJ8_hugeLength_7cf53_59 : decode cJ8_hugeLength_7cf53 59 = .ok (.ireturn, 1) := by decide +kernel
theorem dJ3_checkIndex_8e157_0 : decode cJ3_checkIndex_8e157 0 = .ok (.iload_n 0, 1) := by decide +kernel
theorem dJ3_checkIndex_8e157_1 : decode cJ3_checkIndex_8e157 1 = .ok (.ifCond .lt 8, 3) := by decide +kernel
theorem dJ3_checkIndex_8e157_4 : decode cJ3_checkIndex_8e157 4 = .ok (.iload_n 0, 1) := by decide +kernel
theorem dJ3_checkIndex_8e157_5 : decode cJ3_checkIndex_8e157 5 = .ok (.iload_n 1, 1) := by decide +kernel
theorem dJ3_checkIndex_8e157_6 : decode cJ3_checkIndex_8e157 6 = .ok (.if_icmp .lt 10, 3) := by decide +kernel
theorem dJ3_checkIndex_8e157_9 : decode cJ3_checkIndex_8e157 9 = .ok (.aload_n 2, 1) := by decide +kernel
theorem dJ3_checkIndex_8e157_10 : decode cJ3_checkIndex_8e157 10 = .ok (.iload_n 0, 1) := by decide +kernel
theorem dJ3_checkIndex_8e157_11 : decode cJ3_checkIndex_8e157 11 = .ok (.iload_n 1, 1) := by decide +kernel
theorem dJ3_checkIndex_8e157_12 : decode cJ3_checkIndex_8e157 12 = .ok (.invokestatic 95, 3) := by decide +kernel
theorem dJ3_checkIndex_8e157_15 : decode cJ3_checkIndex_8e157 15 = .ok (.athrow, 1) := by decide +kernel
theorem dJ3_checkIndex_8e157_16 : decode cJ3_checkIndex_8e157 16 = .ok (.iload_n 0, 1) := by decide +kernel
theorem dJ3_checkIndex_8e157_17 : decode cJ3_checkIndex_8e157 17 = .ok (.ireturn, 1) := by decide +kernel
set_option maxRecDepth 20000 in
theorem ggL_put_X11_put : GoodIn wsL_put wsX11_put := goodIn_ca (goodIn_ca (goodIn_ca (goodIn_r _ [6, 7, 8, 9, 10, 5, 11, 12, 13, 14, 15, 16, 17, 18, 19, 20, 21, 22, 23, 24, 25, 26, 27, 28, 29, 30, 31, 32, 33, 34, 35, 36, 37, 38, 39, 40, 41, 42, 43, 44, 45, 46, 47, 48, 49, 50, 51, 52, 53, 54, 55, 56, 57, 58, 59] (by decide +kernel) (by decide +kernel)) (goodIn_sub (fun _ h => List.mem_cons_of_mem _ (List.mem_append_left _ (List.mem_append_left _ (List.mem_append_right _ h)))) (by decide +kernel))) (goodIn_sub (fun _ h => List.mem_cons_of_mem _ (List.mem_append_left _ (List.mem_append_right _ h))) (by decide +kernel))) (goodIn_sub (fun _ h => List.mem_cons_of_mem _ (List.mem_append_right _ h)) (by decide +kernel))
set_option maxRecDepth 20000 in
theorem gL_put_X11_put : GoodIn wsL_put (wsV RL 7 RX11 yX11_put wsX11_put) := goodIn_app (goodIn_of _ (by decide +kernel)) ggL_put_X11_put
theorem dL_put_0 : decode cL_put 0 = .ok (.aload 4, 2) := by decide +kernel
theorem dL_put_2 : decode cL_put 2 = .ok (.iconst 0, 1) := by decide +kernel
theorem dL_put_3 : decode cL_put 3 = .ok (.aload_n 0, 1) := by decide +kernel
theorem dL_put_4 : decode cL_put 4 = .ok (.iload_n 1, 1) := by decide +kernel
theorem dL_put_5 : decode cL_put 5 = .ok (.iload_n 2, 1) := by decide +kernel
theorem dL_put_6 : decode cL_put 6 = .ok (.iload_n 3, 1) := by decide +kernel
theorem dL_put_7 : decode cL_put 7 = .ok (.invokevirtual 7, 3) := by decide +kernel
theorem dL_put_10 : decode cL_put 10 = .ok (.i2l, 1) := by decide +kernel
theorem dL_put_11 : decode cL_put 11 = .ok (.lastore, 1) := by decide +kernel
theorem dL_put_12 : decode cL_put 12 = .ok (.goto 15, 3) := by decide +kernel
theorem dL_put_15 : decode cL_put 15 = .ok (.astore 5, 2) := by decide +kernel
theorem dL_put_17 : decode cL_put 17 = .ok (.iconst 1, 1) := by decide +kernel
theorem dL_put_18 : decode cL_put 18 = .ok (.ireturn, 1) := by decide +kernel
theorem dL_put_19 : decode cL_put 19 = .ok (.astore 5, 2) := by decide +kernel
theorem dL_put_21 : decode cL_put 21 = .ok (.iconst 2, 1) := by decide +kernel
theorem dL_put_22 : decode cL_put 22 = .ok (.ireturn, 1) := by decide +kernel
theorem dL_put_23 : decode cL_put 23 = .ok (.astore 5, 2) := by decide +kernel
theorem dL_put_25 : decode cL_put 25 = .ok (.iconst 3, 1) := by decide +kernel
theorem dL_put_26 : decode cL_put 26 = .ok (.ireturn, 1) := by decide +kernel
theorem dL_put_27 : decode cL_put 27 = .ok (.iconst 0, 1) := by decide +kernel
theorem dL_put_28 : decode cL_put 28 = .ok (.ireturn, 1) := by decide +kernel
set_option maxRecDepth 20000 in
theorem ggL_fill_X11_fill : GoodIn wsL_fill wsX11_fill := goodIn_ca (goodIn_ca (goodIn_ca (goodIn_r _ [6, 7, 8, 9, 10, 5, 11, 12, 13, 14, 15, 16, 17, 18, 19, 20, 21, 22, 23, 24, 25, 26, 27, 28, 29, 30, 31, 32, 33, 34, 35, 36, 37, 38, 39, 40, 41, 42, 43, 44, 45, 46, 47, 48, 49, 50, 51, 52, 53, 54, 55, 56, 57, 58, 59] (by decide +kernel) (by decide +kernel)) (goodIn_sub (fun _ h => List.mem_cons_of_mem _ (List.mem_append_left _ (List.mem_append_left _ (List.mem_append_right _ h)))) (by decide +kernel))) (goodIn_sub (fun _ h => List.mem_cons_of_mem _ (List.mem_append_left _ (List.mem_append_right _ h))) (by decide +kernel))) (goodIn_sub (fun _ h => List.mem_cons_of_mem _ (List.mem_append_right _ h)) (by decide +kernel))
set_option maxRecDepth 20000 in
theorem gL_fill_X11_fill : GoodIn wsL_fill (wsV RL 19 RX11 yX11_fill wsX11_fill) := goodIn_app (goodIn_of _ (by decide +kernel)) ggL_fill_X11_fill
theorem dL_fill_0 : decode cL_fill 0 = .ok (.aload 5, 2) := by decide +kernel
theorem dL_fill_2 : decode cL_fill 2 = .ok (.iconst 0, 1) := by decide +kernel
theorem dL_fill_3 : decode cL_fill 3 = .ok (.aload_n 0, 1) := by decide +kernel
theorem dL_fill_4 : decode cL_fill 4 = .ok (.iload_n 1, 1) := by decide +kernel
theorem dL_fill_5 : decode cL_fill 5 = .ok (.iload_n 2, 1) := by decide +kernel
theorem dL_fill_6 : decode cL_fill 6 = .ok (.iload_n 3, 1) := by decide +kernel
theorem dL_fill_7 : decode cL_fill 7 = .ok (.iload 4, 2) := by decide +kernel
theorem dL_fill_9 : decode cL_fill 9 = .ok (.invokevirtual 19, 3) := by decide +kernel
theorem dL_fill_12 : decode cL_fill 12 = .ok (.i2l, 1) := by decide +kernel
theorem dL_fill_13 : decode cL_fill 13 = .ok (.lastore, 1) := by decide +kernel
theorem dL_fill_14 : decode cL_fill 14 = .ok (.goto 15, 3) := by decide +kernel
theorem dL_fill_17 : decode cL_fill 17 = .ok (.astore 6, 2) := by decide +kernel
theorem dL_fill_19 : decode cL_fill 19 = .ok (.iconst 1, 1) := by decide +kernel
theorem dL_fill_20 : decode cL_fill 20 = .ok (.ireturn, 1) := by decide +kernel
theorem dL_fill_21 : decode cL_fill 21 = .ok (.astore 6, 2) := by decide +kernel
theorem dL_fill_23 : decode cL_fill 23 = .ok (.iconst 2, 1) := by decide +kernel
theorem dL_fill_24 : decode cL_fill 24 = .ok (.ireturn, 1) := by decide +kernel
theorem dL_fill_25 : decode cL_fill 25 = .ok (.astore 6, 2) := by decide +kernel
theorem dL_fill_27 : decode cL_fill 27 = .ok (.iconst 3, 1) := by decide +kernel
theorem dL_fill_28 : decode cL_fill 28 = .ok (.ireturn, 1) := by decide +kernel
theorem dL_fill_29 : decode cL_fill 29 = .ok (.iconst 0, 1) := by decide +kernel
theorem dL_fill_30 : decode cL_fill 30 = .ok (.ireturn, 1) := by decide +kernel
set_option maxRecDepth 20000 in
theorem ggL_scatter_X11_scatter : GoodIn wsL_scatter wsX11_scatter := goodIn_ca (goodIn_ca (goodIn_ca (goodIn_r _ [6, 7, 8, 9, 10, 11, 12, 13, 14, 15, 16, 5, 17, 18, 19, 20, 21, 22, 23, 24, 25, 26, 27, 28, 29, 30, 31, 32, 33, 34, 35, 36, 37, 38, 39, 40, 41, 42, 43, 44, 45, 46, 47, 48, 49, 50, 51, 52, 53, 54, 55, 56, 57, 58, 59, 60, 61, 62, 63] (by decide +kernel) (by decide +kernel)) (goodIn_sub (fun _ h => List.mem_cons_of_mem _ (List.mem_append_left _ (List.mem_append_left _ (List.mem_append_right _ h)))) (by decide +kernel))) (goodIn_sub (fun _ h => List.mem_cons_of_mem _ (List.mem_append_left _ (List.mem_append_right _ h))) (by decide +kernel))) (goodIn_sub (fun _ h => List.mem_cons_of_mem _ (List.mem_append_right _ h)) (by decide +kernel))
set_option maxRecDepth 20000 in
theorem gL_scatter_X11_scatter : GoodIn wsL_scatter (wsV RL 23 RX11 yX11_scatter wsX11_scatter) := goodIn_app (goodIn_of _ (by decide +kernel)) ggL_scatter_X11_scatter
theorem dL_scatter_0 : decode cL_scatter 0 = .ok (.aload 5, 2) := by decide +kernel
theorem dL_scatter_2 : decode cL_scatter 2 = .ok (.iconst 0, 1) := by decide +kernel
theorem dL_scatter_3 : decode cL_scatter 3 = .ok (.aload_n 0, 1) := by decide +kernel
theorem dL_scatter_4 : decode cL_scatter 4 = .ok (.iload_n 1, 1) := by decide +kernel
theorem dL_scatter_5 : decode cL_scatter 5 = .ok (.iload_n 2, 1) := by decide +kernel
theorem dL_scatter_6 : decode cL_scatter 6 = .ok (.iload_n 3, 1) := by decide +kernel
theorem dL_scatter_7 : decode cL_scatter 7 = .ok (.iload 4, 2) := by decide +kernel
theorem dL_scatter_9 : decode cL_scatter 9 = .ok (.invokevirtual 23, 3) := by decide +kernel
theorem dL_scatter_12 : decode cL_scatter 12 = .ok (.i2l, 1) := by decide +kernel
theorem dL_scatter_13 : decode cL_scatter 13 = .ok (.lastore, 1) := by decide +kernel
theorem dL_scatter_14 : decode cL_scatter 14 = .ok (.goto 15, 3) := by decide +kernel
theorem dL_scatter_17 : decode cL_scatter 17 = .ok (.astore 6, 2) := by decide +kernel
theorem dL_scatter_19 : decode cL_scatter 19 = .ok (.iconst 1, 1) := by decide +kernel
theorem dL_scatter_20 : decode cL_scatter 20 = .ok (.ireturn, 1) := by decide +kernel
theorem dL_scatter_21 : decode cL_scatter 21 = .ok (.astore 6, 2) := by decide +kernel
theorem dL_scatter_23 : decode cL_scatter 23 = .ok (.iconst 2, 1) := by decide +kernel
theorem dL_scatter_24 : decode cL_scatter 24 = .ok (.ireturn, 1) := by decide +kernel
theorem dL_scatter_25 : decode cL_scatter 25 = .ok (.astore 6, 2) := by decide +kernel
theorem dL_scatter_27 : decode cL_scatter 27 = .ok (.iconst 3, 1) := by decide +kernel
theorem dL_scatter_28 : decode cL_scatter 28 = .ok (.ireturn, 1) := by decide +kernel
theorem dL_scatter_29 : decode cL_scatter 29 = .ok (.iconst 0, 1) := by decide +kernel
theorem dL_scatter_30 : decode cL_scatter 30 = .ok (.ireturn, 1) := by decide +kernel
set_option maxRecDepth 20000 in
theorem ggL_key_X11_key : GoodIn wsL_key wsX11_key := goodIn_ca (goodIn_r _ [6, 7, 8, 9, 10, 5, 11, 12, 13, 14, 15, 16, 17, 18, 19, 20, 21, 22, 23, 24, 25, 26, 27, 28, 29, 30, 31, 32, 33, 34, 35, 36, 37, 38, 39, 40] (by decide +kernel) (by decide +kernel)) (goodIn_sub (fun _ h => List.mem_cons_of_mem _ (List.mem_append_right _ h)) (by decide +kernel))
set_option maxRecDepth 20000 in
theorem gL_key_X11_key : GoodIn wsL_key (wsV RL 26 RX11 yX11_key wsX11_key) := goodIn_app (goodIn_of _ (by decide +kernel)) ggL_key_X11_key
theorem dL_key_0 : decode cL_key 0 = .ok (.aload_n 2, 1) := by decide +kernel
theorem dL_key_1 : decode cL_key 1 = .ok (.iconst 0, 1) := by decide +kernel
theorem dL_key_2 : decode cL_key 2 = .ok (.aload_n 0, 1) := by decide +kernel
theorem dL_key_3 : decode cL_key 3 = .ok (.iload_n 1, 1) := by decide +kernel
theorem dL_key_4 : decode cL_key 4 = .ok (.invokevirtual 26, 3) := by decide +kernel
theorem dL_key_7 : decode cL_key 7 = .ok (.i2l, 1) := by decide +kernel
theorem dL_key_8 : decode cL_key 8 = .ok (.lastore, 1) := by decide +kernel
theorem dL_key_9 : decode cL_key 9 = .ok (.goto 6, 3) := by decide +kernel
theorem dL_key_12 : decode cL_key 12 = .ok (.astore_n 3, 1) := by decide +kernel
theorem dL_key_13 : decode cL_key 13 = .ok (.iconst 1, 1) := by decide +kernel
theorem dL_key_14 : decode cL_key 14 = .ok (.ireturn, 1) := by decide +kernel
theorem dL_key_15 : decode cL_key 15 = .ok (.iconst 0, 1) := by decide +kernel
theorem dL_key_16 : decode cL_key 16 = .ok (.ireturn, 1) := by decide +kernel
set_option maxRecDepth 20000 in
theorem ggL_mark_X11_mark : GoodIn wsL_mark wsX11_mark := goodIn_ca (goodIn_r _ [6, 7, 8, 9, 10, 5, 11, 12, 13, 14, 15, 16, 17, 18, 19, 20, 21, 22, 23, 24, 25, 26, 27, 28, 29, 30, 31, 32, 33, 34, 35, 36, 37, 38, 39, 40] (by decide +kernel) (by decide +kernel)) (goodIn_sub (fun _ h => List.mem_cons_of_mem _ (List.mem_append_right _ h)) (by decide +kernel))
set_option maxRecDepth 20000 in
theorem gL_mark_X11_mark : GoodIn wsL_mark (wsV RL 30 RX11 yX11_mark wsX11_mark) := goodIn_app (goodIn_of _ (by decide +kernel)) ggL_mark_X11_mark
theorem dL_mark_0 : decode cL_mark 0 = .ok (.aload_n 2, 1) := by decide +kernel
theorem dL_mark_1 : decode cL_mark 1 = .ok (.iconst 0, 1) := by decide +kernel
theorem dL_mark_2 : decode cL_mark 2 = .ok (.aload_n 0, 1) := by decide +kernel
theorem dL_mark_3 : decode cL_mark 3 = .ok (.iload_n 1, 1) := by decide +kernel
theorem dL_mark_4 : decode cL_mark 4 = .ok (.invokevirtual 30, 3) := by decide +kernel
theorem dL_mark_7 : decode cL_mark 7 = .ok (.i2l, 1) := by decide +kernel
theorem dL_mark_8 : decode cL_mark 8 = .ok (.lastore, 1) := by decide +kernel
theorem dL_mark_9 : decode cL_mark 9 = .ok (.goto 6, 3) := by decide +kernel
theorem dL_mark_12 : decode cL_mark 12 = .ok (.astore_n 3, 1) := by decide +kernel
theorem dL_mark_13 : decode cL_mark 13 = .ok (.iconst 1, 1) := by decide +kernel
theorem dL_mark_14 : decode cL_mark 14 = .ok (.ireturn, 1) := by decide +kernel
theorem dL_mark_15 : decode cL_mark 15 = .ok (.iconst 0, 1) := by decide +kernel
theorem dL_mark_16 : decode cL_mark 16 = .ok (.ireturn, 1) := by decide +kernel
set_option maxRecDepth 20000 in
theorem ggL_length_X11_length : GoodIn wsL_length wsX11_length := goodIn_ca (goodIn_r _ [6, 7, 8, 9, 5, 10, 11, 12, 13, 14, 15, 16, 17, 18, 19, 20, 21, 22, 23, 24, 25, 26, 27, 28] (by decide +kernel) (by decide +kernel)) (goodIn_sub (fun _ h => List.mem_cons_of_mem _ (List.mem_append_right _ h)) (by decide +kernel))
set_option maxRecDepth 20000 in
theorem gL_length_X11_length : GoodIn wsL_length (wsV RL 33 RX11 yX11_length wsX11_length) := goodIn_app (goodIn_of _ (by decide +kernel)) ggL_length_X11_length
theorem dL_length_0 : decode cL_length 0 = .ok (.aload_n 2, 1) := by decide +kernel
theorem dL_length_1 : decode cL_length 1 = .ok (.iconst 0, 1) := by decide +kernel
theorem dL_length_2 : decode cL_length 2 = .ok (.aload_n 0, 1) := by decide +kernel
theorem dL_length_3 : decode cL_length 3 = .ok (.iload_n 1, 1) := by decide +kernel
theorem dL_length_4 : decode cL_length 4 = .ok (.invokevirtual 33, 3) := by decide +kernel
theorem dL_length_7 : decode cL_length 7 = .ok (.i2l, 1) := by decide +kernel
theorem dL_length_8 : decode cL_length 8 = .ok (.lastore, 1) := by decide +kernel
theorem dL_length_9 : decode cL_length 9 = .ok (.goto 6, 3) := by decide +kernel
theorem dL_length_12 : decode cL_length 12 = .ok (.astore_n 3, 1) := by decide +kernel
theorem dL_length_13 : decode cL_length 13 = .ok (.iconst 1, 1) := by decide +kernel
theorem dL_length_14 : decode cL_length 14 = .ok (.ireturn, 1) := by decide +kernel
theorem dL_length_15 : decode cL_length 15 = .ok (.iconst 0, 1) := by decide +kernel
theorem dL_length_16 : decode cL_length 16 = .ok (.ireturn, 1) := by decide +kernel
set_option maxRecDepth 20000 in
theorem ggL_at_X11_at : GoodIn wsL_at wsX11_at := goodIn_ca (goodIn_r _ [6, 7, 8, 9, 10, 11, 5, 12, 13, 14, 15, 16, 17, 18, 19, 20, 21, 22, 23, 24, 25, 26, 27, 28, 29, 30, 31, 32, 33, 34, 35] (by decide +kernel) (by decide +kernel)) (goodIn_sub (fun _ h => List.mem_cons_of_mem _ (List.mem_append_right _ h)) (by decide +kernel))
set_option maxRecDepth 20000 in
theorem gL_at_X11_at : GoodIn wsL_at (wsV RL 36 RX11 yX11_at wsX11_at) := goodIn_app (goodIn_of _ (by decide +kernel)) ggL_at_X11_at
theorem dL_at_0 : decode cL_at 0 = .ok (.aload_n 3, 1) := by decide +kernel
theorem dL_at_1 : decode cL_at 1 = .ok (.iconst 0, 1) := by decide +kernel
theorem dL_at_2 : decode cL_at 2 = .ok (.aload_n 0, 1) := by decide +kernel
theorem dL_at_3 : decode cL_at 3 = .ok (.iload_n 1, 1) := by decide +kernel
theorem dL_at_4 : decode cL_at 4 = .ok (.iload_n 2, 1) := by decide +kernel
theorem dL_at_5 : decode cL_at 5 = .ok (.invokevirtual 36, 3) := by decide +kernel
theorem dL_at_8 : decode cL_at 8 = .ok (.i2l, 1) := by decide +kernel
theorem dL_at_9 : decode cL_at 9 = .ok (.lastore, 1) := by decide +kernel
theorem dL_at_10 : decode cL_at 10 = .ok (.goto 7, 3) := by decide +kernel
theorem dL_at_13 : decode cL_at 13 = .ok (.astore 4, 2) := by decide +kernel
theorem dL_at_15 : decode cL_at 15 = .ok (.iconst 1, 1) := by decide +kernel
theorem dL_at_16 : decode cL_at 16 = .ok (.ireturn, 1) := by decide +kernel
theorem dL_at_17 : decode cL_at 17 = .ok (.iconst 0, 1) := by decide +kernel
theorem dL_at_18 : decode cL_at 18 = .ok (.ireturn, 1) := by decide +kernel
set_option maxRecDepth 20000 in
theorem ggL_digest_X11_digest : GoodIn wsL_digest wsX11_digest := goodIn_ca (goodIn_r _ [6, 7, 8, 9, 5, 10, 11, 12, 13, 14, 15, 16, 17, 18, 19, 20, 21, 22, 23, 24, 25, 26, 27, 28, 29, 30, 31, 32, 33, 34, 35] (by decide +kernel) (by decide +kernel)) (goodIn_sub (fun _ h => List.mem_cons_of_mem _ (List.mem_append_right _ h)) (by decide +kernel))
set_option maxRecDepth 20000 in
theorem gL_digest_X11_digest : GoodIn wsL_digest (wsV RL 40 RX11 yX11_digest wsX11_digest) := goodIn_app (goodIn_of _ (by decide +kernel)) ggL_digest_X11_digest
theorem dL_digest_0 : decode cL_digest 0 = .ok (.aload_n 2, 1) := by decide +kernel
theorem dL_digest_1 : decode cL_digest 1 = .ok (.iconst 0, 1) := by decide +kernel
theorem dL_digest_2 : decode cL_digest 2 = .ok (.aload_n 0, 1) := by decide +kernel
theorem dL_digest_3 : decode cL_digest 3 = .ok (.iload_n 1, 1) := by decide +kernel
theorem dL_digest_4 : decode cL_digest 4 = .ok (.invokevirtual 40, 3) := by decide +kernel
theorem dL_digest_7 : decode cL_digest 7 = .ok (.i2l, 1) := by decide +kernel
theorem dL_digest_8 : decode cL_digest 8 = .ok (.lastore, 1) := by decide +kernel
theorem dL_digest_9 : decode cL_digest 9 = .ok (.goto 6, 3) := by decide +kernel
theorem dL_digest_12 : decode cL_digest 12 = .ok (.astore_n 3, 1) := by decide +kernel
theorem dL_digest_13 : decode cL_digest 13 = .ok (.iconst 1, 1) := by decide +kernel
theorem dL_digest_14 : decode cL_digest 14 = .ok (.ireturn, 1) := by decide +kernel
theorem dL_digest_15 : decode cL_digest 15 = .ok (.iconst 0, 1) := by decide +kernel
theorem dL_digest_16 : decode cL_digest 16 = .ok (.ireturn, 1) := by decide +kernel
set_option maxRecDepth 20000 in
theorem ggL_isSorted_X11_isSorted : GoodIn wsL_isSorted wsX11_isSorted := goodIn_ca (goodIn_ca (goodIn_r _ [6, 7, 8, 9, 10, 5, 11, 12, 13, 14, 15, 16, 17, 18, 19, 20, 21, 22, 23, 24, 25, 26, 27, 28, 29, 30, 31, 32, 33, 34, 35, 36, 37, 38, 39, 40, 41, 42, 43, 44, 45, 46, 47, 48, 49, 50, 51, 52, 53, 54, 55] (by decide +kernel) (by decide +kernel)) (goodIn_sub (fun _ h => List.mem_cons_of_mem _ (List.mem_append_left _ (List.mem_append_right _ h))) (by decide +kernel))) (goodIn_sub (fun _ h => List.mem_cons_of_mem _ (List.mem_append_right _ h)) (by decide +kernel))
set_option maxRecDepth 20000 in
theorem gL_isSorted_X11_isSorted : GoodIn wsL_isSorted (wsV RL 43 RX11 yX11_isSorted wsX11_isSorted) := goodIn_app (goodIn_of _ (by decide +kernel)) ggL_isSorted_X11_isSorted
theorem dL_isSorted_0 : decode cL_isSorted 0 = .ok (.aload_n 3, 1) := by decide +kernel
theorem dL_isSorted_1 : decode cL_isSorted 1 = .ok (.iconst 0, 1) := by decide +kernel
theorem dL_isSorted_2 : decode cL_isSorted 2 = .ok (.aload_n 0, 1) := by decide +kernel
theorem dL_isSorted_3 : decode cL_isSorted 3 = .ok (.iload_n 1, 1) := by decide +kernel
theorem dL_isSorted_4 : decode cL_isSorted 4 = .ok (.iload_n 2, 1) := by decide +kernel
theorem dL_isSorted_5 : decode cL_isSorted 5 = .ok (.invokevirtual 43, 3) := by decide +kernel
theorem dL_isSorted_8 : decode cL_isSorted 8 = .ok (.ifCond .eq 7, 3) := by decide +kernel
theorem dL_isSorted_11 : decode cL_isSorted 11 = .ok (.lconst 1, 1) := by decide +kernel
theorem dL_isSorted_12 : decode cL_isSorted 12 = .ok (.goto 4, 3) := by decide +kernel
theorem dL_isSorted_15 : decode cL_isSorted 15 = .ok (.lconst 0, 1) := by decide +kernel
theorem dL_isSorted_16 : decode cL_isSorted 16 = .ok (.lastore, 1) := by decide +kernel
theorem dL_isSorted_17 : decode cL_isSorted 17 = .ok (.goto 11, 3) := by decide +kernel
theorem dL_isSorted_20 : decode cL_isSorted 20 = .ok (.astore 4, 2) := by decide +kernel
theorem dL_isSorted_22 : decode cL_isSorted 22 = .ok (.iconst 1, 1) := by decide +kernel
theorem dL_isSorted_23 : decode cL_isSorted 23 = .ok (.ireturn, 1) := by decide +kernel
theorem dL_isSorted_24 : decode cL_isSorted 24 = .ok (.astore 4, 2) := by decide +kernel
theorem dL_isSorted_26 : decode cL_isSorted 26 = .ok (.iconst 2, 1) := by decide +kernel
theorem dL_isSorted_27 : decode cL_isSorted 27 = .ok (.ireturn, 1) := by decide +kernel
theorem dL_isSorted_28 : decode cL_isSorted 28 = .ok (.iconst 0, 1) := by decide +kernel
theorem dL_isSorted_29 : decode cL_isSorted 29 = .ok (.ireturn, 1) := by decide +kernel
set_option maxRecDepth 20000 in
theorem ggL_clear_X11_clear : GoodIn wsL_clear wsX11_clear := goodIn_ca (goodIn_r _ [6, 7, 8, 9, 5, 10, 11, 12, 13, 14, 15, 16, 17, 18, 19, 20, 21, 22, 23, 24, 25, 26, 27, 28, 29, 30, 31, 32, 33, 34] (by decide +kernel) (by decide +kernel)) (goodIn_sub (fun _ h => List.mem_cons_of_mem _ (List.mem_append_right _ h)) (by decide +kernel))
set_option maxRecDepth 20000 in
theorem gL_clear_X11_clear : GoodIn wsL_clear (wsV RL 47 RX11 yX11_clear wsX11_clear) := goodIn_app (goodIn_of _ (by decide +kernel)) ggL_clear_X11_clear
theorem dL_clear_0 : decode cL_clear 0 = .ok (.aload_n 2, 1) := by decide +kernel
theorem dL_clear_1 : decode cL_clear 1 = .ok (.iconst 0, 1) := by decide +kernel
theorem dL_clear_2 : decode cL_clear 2 = .ok (.aload_n 0, 1) := by decide +kernel
theorem dL_clear_3 : decode cL_clear 3 = .ok (.iload_n 1, 1) := by decide +kernel
theorem dL_clear_4 : decode cL_clear 4 = .ok (.invokevirtual 47, 3) := by decide +kernel
theorem dL_clear_7 : decode cL_clear 7 = .ok (.i2l, 1) := by decide +kernel
theorem dL_clear_8 : decode cL_clear 8 = .ok (.lastore, 1) := by decide +kernel
theorem dL_clear_9 : decode cL_clear 9 = .ok (.goto 6, 3) := by decide +kernel
theorem dL_clear_12 : decode cL_clear 12 = .ok (.astore_n 3, 1) := by decide +kernel
theorem dL_clear_13 : decode cL_clear 13 = .ok (.iconst 1, 1) := by decide +kernel
theorem dL_clear_14 : decode cL_clear 14 = .ok (.ireturn, 1) := by decide +kernel
theorem dL_clear_15 : decode cL_clear 15 = .ok (.iconst 0, 1) := by decide +kernel
theorem dL_clear_16 : decode cL_clear 16 = .ok (.ireturn, 1) := by decide +kernel
set_option maxRecDepth 20000 in
theorem ggL_copy_X11_copy : GoodIn wsL_copy wsX11_copy := goodIn_ca (goodIn_r _ [6, 7, 8, 9, 5, 10, 11, 12, 13, 14, 15, 16, 17, 18, 19, 20, 21, 22, 23, 24, 25, 26, 27, 28, 29, 30, 31, 32, 33, 34, 35, 36, 37, 38, 39] (by decide +kernel) (by decide +kernel)) (goodIn_sub (fun _ h => List.mem_cons_of_mem _ (List.mem_append_right _ h)) (by decide +kernel))
set_option maxRecDepth 20000 in
theorem gL_copy_X11_copy : GoodIn wsL_copy (wsV RL 50 RX11 yX11_copy wsX11_copy) := goodIn_app (goodIn_of _ (by decide +kernel)) ggL_copy_X11_copy
theorem dL_copy_0 : decode cL_copy 0 = .ok (.aload_n 3, 1) := by decide +kernel
theorem dL_copy_1 : decode cL_copy 1 = .ok (.iconst 0, 1) := by decide +kernel
theorem dL_copy_2 : decode cL_copy 2 = .ok (.aload_n 0, 1) := by decide +kernel
theorem dL_copy_3 : decode cL_copy 3 = .ok (.iload_n 1, 1) := by decide +kernel
theorem dL_copy_4 : decode cL_copy 4 = .ok (.iload_n 2, 1) := by decide +kernel
theorem dL_copy_5 : decode cL_copy 5 = .ok (.invokevirtual 50, 3) := by decide +kernel
theorem dL_copy_8 : decode cL_copy 8 = .ok (.i2l, 1) := by decide +kernel
theorem dL_copy_9 : decode cL_copy 9 = .ok (.lastore, 1) := by decide +kernel
theorem dL_copy_10 : decode cL_copy 10 = .ok (.goto 7, 3) := by decide +kernel
theorem dL_copy_13 : decode cL_copy 13 = .ok (.astore 4, 2) := by decide +kernel
theorem dL_copy_15 : decode cL_copy 15 = .ok (.iconst 1, 1) := by decide +kernel
theorem dL_copy_16 : decode cL_copy 16 = .ok (.ireturn, 1) := by decide +kernel
theorem dL_copy_17 : decode cL_copy 17 = .ok (.iconst 0, 1) := by decide +kernel
theorem dL_copy_18 : decode cL_copy 18 = .ok (.ireturn, 1) := by decide +kernel
set_option maxRecDepth 20000 in
theorem ggL_turn_X11_turn : GoodIn wsL_turn wsX11_turn := goodIn_ca (goodIn_r _ [6, 7, 8, 9, 5, 10, 11, 12, 13, 14, 15, 16, 17, 18, 19, 20, 21, 22, 23, 24, 25, 26, 27, 28, 29, 30, 31, 32, 33, 34, 35, 36, 37, 38, 39] (by decide +kernel) (by decide +kernel)) (goodIn_sub (fun _ h => List.mem_cons_of_mem _ (List.mem_append_right _ h)) (by decide +kernel))
set_option maxRecDepth 20000 in
theorem gL_turn_X11_turn : GoodIn wsL_turn (wsV RL 53 RX11 yX11_turn wsX11_turn) := goodIn_app (goodIn_of _ (by decide +kernel)) ggL_turn_X11_turn
theorem dL_turn_0 : decode cL_turn 0 = .ok (.aload_n 2, 1) := by decide +kernel
theorem dL_turn_1 : decode cL_turn 1 = .ok (.iconst 0, 1) := by decide +kernel
theorem dL_turn_2 : decode cL_turn 2 = .ok (.aload_n 0, 1) := by decide +kernel
theorem dL_turn_3 : decode cL_turn 3 = .ok (.iload_n 1, 1) := by decide +kernel
theorem dL_turn_4 : decode cL_turn 4 = .ok (.invokevirtual 53, 3) := by decide +kernel
theorem dL_turn_7 : decode cL_turn 7 = .ok (.i2l, 1) := by decide +kernel
theorem dL_turn_8 : decode cL_turn 8 = .ok (.lastore, 1) := by decide +kernel
theorem dL_turn_9 : decode cL_turn 9 = .ok (.goto 6, 3) := by decide +kernel
theorem dL_turn_12 : decode cL_turn 12 = .ok (.astore_n 3, 1) := by decide +kernel
theorem dL_turn_13 : decode cL_turn 13 = .ok (.iconst 1, 1) := by decide +kernel
theorem dL_turn_14 : decode cL_turn 14 = .ok (.ireturn, 1) := by decide +kernel
theorem dL_turn_15 : decode cL_turn 15 = .ok (.iconst 0, 1) := by decide +kernel
theorem dL_turn_16 : decode cL_turn 16 = .ok (.ireturn, 1) := by decide +kernel
set_option maxRecDepth 20000 in
theorem ggL_setRuns_X11_setRuns : GoodIn wsL_setRuns wsX11_setRuns := goodIn_ca (goodIn_r _ [6, 7, 8, 9, 10, 5, 11, 12, 13, 14, 15, 16, 17, 18, 19, 20, 21, 22, 23, 24, 25, 26, 27, 28, 29, 30, 31] (by decide +kernel) (by decide +kernel)) (goodIn_sub (fun _ h => List.mem_cons_of_mem _ (List.mem_append_right _ h)) (by decide +kernel))
set_option maxRecDepth 20000 in
theorem gL_setRuns_X11_setRuns : GoodIn wsL_setRuns (wsV RL 56 RX11 yX11_setRuns wsX11_setRuns) := goodIn_app (goodIn_of _ (by decide +kernel)) ggL_setRuns_X11_setRuns
theorem dL_setRuns_0 : decode cL_setRuns 0 = .ok (.aload 4, 2) := by decide +kernel
theorem dL_setRuns_2 : decode cL_setRuns 2 = .ok (.iconst 0, 1) := by decide +kernel
theorem dL_setRuns_3 : decode cL_setRuns 3 = .ok (.aload_n 0, 1) := by decide +kernel
theorem dL_setRuns_4 : decode cL_setRuns 4 = .ok (.iload_n 1, 1) := by decide +kernel
theorem dL_setRuns_5 : decode cL_setRuns 5 = .ok (.iload_n 2, 1) := by decide +kernel
theorem dL_setRuns_6 : decode cL_setRuns 6 = .ok (.iload_n 3, 1) := by decide +kernel
theorem dL_setRuns_7 : decode cL_setRuns 7 = .ok (.invokevirtual 56, 3) := by decide +kernel
theorem dL_setRuns_10 : decode cL_setRuns 10 = .ok (.i2l, 1) := by decide +kernel
theorem dL_setRuns_11 : decode cL_setRuns 11 = .ok (.lastore, 1) := by decide +kernel
theorem dL_setRuns_12 : decode cL_setRuns 12 = .ok (.goto 7, 3) := by decide +kernel
theorem dL_setRuns_15 : decode cL_setRuns 15 = .ok (.astore 5, 2) := by decide +kernel
theorem dL_setRuns_17 : decode cL_setRuns 17 = .ok (.iconst 1, 1) := by decide +kernel
theorem dL_setRuns_18 : decode cL_setRuns 18 = .ok (.ireturn, 1) := by decide +kernel
theorem dL_setRuns_19 : decode cL_setRuns 19 = .ok (.iconst 0, 1) := by decide +kernel
theorem dL_setRuns_20 : decode cL_setRuns 20 = .ok (.ireturn, 1) := by decide +kernel
set_option maxRecDepth 20000 in
theorem ggL_setMerge_X11_setMerge : GoodIn wsL_setMerge wsX11_setMerge := goodIn_ca (goodIn_r _ [6, 7, 8, 9, 10, 5, 11, 12, 13, 14, 15, 16, 17, 18, 19, 20, 21, 22, 23, 24, 25, 26, 27, 28, 29, 30, 31] (by decide +kernel) (by decide +kernel)) (goodIn_sub (fun _ h => List.mem_cons_of_mem _ (List.mem_append_right _ h)) (by decide +kernel))
set_option maxRecDepth 20000 in
theorem gL_setMerge_X11_setMerge : GoodIn wsL_setMerge (wsV RL 59 RX11 yX11_setMerge wsX11_setMerge) := goodIn_app (goodIn_of _ (by decide +kernel)) ggL_setMerge_X11_setMerge
theorem dL_setMerge_0 : decode cL_setMerge 0 = .ok (.aload_n 3, 1) := by decide +kernel
theorem dL_setMerge_1 : decode cL_setMerge 1 = .ok (.iconst 0, 1) := by decide +kernel
theorem dL_setMerge_2 : decode cL_setMerge 2 = .ok (.aload_n 0, 1) := by decide +kernel
theorem dL_setMerge_3 : decode cL_setMerge 3 = .ok (.iload_n 1, 1) := by decide +kernel
theorem dL_setMerge_4 : decode cL_setMerge 4 = .ok (.iload_n 2, 1) := by decide +kernel
theorem dL_setMerge_5 : decode cL_setMerge 5 = .ok (.invokevirtual 59, 3) := by decide +kernel
theorem dL_setMerge_8 : decode cL_setMerge 8 = .ok (.i2l, 1) := by decide +kernel
theorem dL_setMerge_9 : decode cL_setMerge 9 = .ok (.lastore, 1) := by decide +kernel
theorem dL_setMerge_10 : decode cL_setMerge 10 = .ok (.goto 7, 3) := by decide +kernel
theorem dL_setMerge_13 : decode cL_setMerge 13 = .ok (.astore 4, 2) := by decide +kernel
theorem dL_setMerge_15 : decode cL_setMerge 15 = .ok (.iconst 1, 1) := by decide +kernel
theorem dL_setMerge_16 : decode cL_setMerge 16 = .ok (.ireturn, 1) := by decide +kernel
theorem dL_setMerge_17 : decode cL_setMerge 17 = .ok (.iconst 0, 1) := by decide +kernel
theorem dL_setMerge_18 : decode cL_setMerge 18 = .ok (.ireturn, 1) := by decide +kernel
set_option maxRecDepth 20000 in
theorem ggL_setting_X11_setting : GoodIn wsL_setting wsX11_setting := goodIn_ca (goodIn_r _ [6, 7, 8, 9, 10, 11, 12, 13, 14, 15, 16, 17, 18, 19, 20, 21, 22, 23, 24, 25, 26, 27] (by decide +kernel) (by decide +kernel)) (goodIn_sub (fun _ h => List.mem_cons_of_mem _ (List.mem_append_right _ h)) (by decide +kernel))
set_option maxRecDepth 20000 in
theorem gL_setting_X11_setting : GoodIn wsL_setting (wsV RL 62 RX11 yX11_setting wsX11_setting) := goodIn_app (goodIn_of _ (by decide +kernel)) ggL_setting_X11_setting
theorem dL_setting_0 : decode cL_setting 0 = .ok (.aload_n 2, 1) := by decide +kernel
theorem dL_setting_1 : decode cL_setting 1 = .ok (.iconst 0, 1) := by decide +kernel
theorem dL_setting_2 : decode cL_setting 2 = .ok (.aload_n 0, 1) := by decide +kernel
theorem dL_setting_3 : decode cL_setting 3 = .ok (.iload_n 1, 1) := by decide +kernel
theorem dL_setting_4 : decode cL_setting 4 = .ok (.invokevirtual 62, 3) := by decide +kernel
theorem dL_setting_7 : decode cL_setting 7 = .ok (.i2l, 1) := by decide +kernel
theorem dL_setting_8 : decode cL_setting 8 = .ok (.lastore, 1) := by decide +kernel
theorem dL_setting_9 : decode cL_setting 9 = .ok (.goto 6, 3) := by decide +kernel
theorem dL_setting_12 : decode cL_setting 12 = .ok (.astore_n 3, 1) := by decide +kernel
theorem dL_setting_13 : decode cL_setting 13 = .ok (.iconst 1, 1) := by decide +kernel
theorem dL_setting_14 : decode cL_setting 14 = .ok (.ireturn, 1) := by decide +kernel
theorem dL_setting_15 : decode cL_setting 15 = .ok (.iconst 0, 1) := by decide +kernel
theorem dL_setting_16 : decode cL_setting 16 = .ok (.ireturn, 1) := by decide +kernel
set_option maxRecDepth 20000 in
theorem ggL_runs_X11_runs : GoodIn wsL_runs wsX11_runs := goodIn_ca (goodIn_r _ [6, 7, 8, 9, 10, 11, 12, 13, 5, 14, 15, 16, 17, 18, 19, 20, 21, 22, 23, 24, 25, 26, 27, 28, 29, 30, 31, 32, 33, 34, 35, 36, 37, 38, 39, 40, 41, 42, 43, 44, 45, 46, 47, 48, 49, 50, 51, 52, 53, 54, 55, 56, 57, 58, 59, 60, 61, 62, 63, 64, 65, 66, 67, 68, 69, 70, 71, 72, 73, 74, 75, 76, 77, 78, 79, 80, 81, 82, 83, 84, 85, 86, 87, 88, 89, 90, 91, 92, 93, 94, 95, 96, 97, 98, 99, 100, 101, 102, 103, 104, 105, 106, 107, 108, 109, 110, 111, 112, 113, 114, 115, 116, 117, 118, 119, 120, 121, 122] (by decide +kernel) (by decide +kernel)) (goodIn_sub (fun _ h => List.mem_cons_of_mem _ (List.mem_append_right _ h)) (by decide +kernel))
set_option maxRecDepth 20000 in
theorem gL_runs_X11_runs : GoodIn wsL_runs (wsV RL 65 RX11 yX11_runs wsX11_runs) := goodIn_app (goodIn_of _ (by decide +kernel)) ggL_runs_X11_runs
theorem dL_runs_0 : decode cL_runs 0 = .ok (.aload_n 2, 1) := by decide +kernel
theorem dL_runs_1 : decode cL_runs 1 = .ok (.iconst 0, 1) := by decide +kernel
theorem dL_runs_2 : decode cL_runs 2 = .ok (.aload_n 0, 1) := by decide +kernel
theorem dL_runs_3 : decode cL_runs 3 = .ok (.iload_n 1, 1) := by decide +kernel
theorem dL_runs_4 : decode cL_runs 4 = .ok (.invokevirtual 65, 3) := by decide +kernel
theorem dL_runs_7 : decode cL_runs 7 = .ok (.i2l, 1) := by decide +kernel
theorem dL_runs_8 : decode cL_runs 8 = .ok (.lastore, 1) := by decide +kernel
theorem dL_runs_9 : decode cL_runs 9 = .ok (.goto 6, 3) := by decide +kernel
theorem dL_runs_12 : decode cL_runs 12 = .ok (.astore_n 3, 1) := by decide +kernel
theorem dL_runs_13 : decode cL_runs 13 = .ok (.iconst 1, 1) := by decide +kernel
theorem dL_runs_14 : decode cL_runs 14 = .ok (.ireturn, 1) := by decide +kernel
theorem dL_runs_15 : decode cL_runs 15 = .ok (.iconst 0, 1) := by decide +kernel
theorem dL_runs_16 : decode cL_runs 16 = .ok (.ireturn, 1) := by decide +kernel
set_option maxRecDepth 20000 in
theorem ggL_runLength_X11_runLength : GoodIn wsL_runLength wsX11_runLength := goodIn_ca (goodIn_r _ [6, 7, 8, 9, 10, 5, 11, 12, 13, 14, 15, 16, 17, 18, 19, 20, 21, 22, 23, 24, 25, 26, 27, 28, 29, 30, 31, 32, 33, 34, 35, 36, 37, 38, 39, 40, 41, 42, 43, 44, 45, 46, 47, 48, 49, 50, 51, 52, 53, 54, 55, 56, 57, 58, 59, 60, 61, 62, 63, 64, 65, 66, 67, 68, 69, 70, 71, 72, 73, 74, 75, 76, 77, 78, 79, 80, 81, 82, 83, 84, 85, 86, 87, 88, 89, 90, 91, 92, 93, 94, 95, 96, 97, 98, 99, 100, 101, 102, 103, 104, 105, 106, 107, 108, 109, 110, 111, 112, 113, 114, 115, 116, 117, 118, 119, 120, 121, 122, 123, 124, 125, 126, 127, 128, 129, 130] (by decide +kernel) (by decide +kernel)) (goodIn_sub (fun _ h => List.mem_cons_of_mem _ (List.mem_append_right _ h)) (by decide +kernel))
set_option maxRecDepth 20000 in
theorem gL_runLength_X11_runLength : GoodIn wsL_runLength (wsV RL 68 RX11 yX11_runLength wsX11_runLength) := goodIn_app (goodIn_of _ (by decide +kernel)) ggL_runLength_X11_runLength
theorem dL_runLength_0 : decode cL_runLength 0 = .ok (.aload_n 3, 1) := by decide +kernel
theorem dL_runLength_1 : decode cL_runLength 1 = .ok (.iconst 0, 1) := by decide +kernel
theorem dL_runLength_2 : decode cL_runLength 2 = .ok (.aload_n 0, 1) := by decide +kernel
theorem dL_runLength_3 : decode cL_runLength 3 = .ok (.iload_n 1, 1) := by decide +kernel
theorem dL_runLength_4 : decode cL_runLength 4 = .ok (.iload_n 2, 1) := by decide +kernel
theorem dL_runLength_5 : decode cL_runLength 5 = .ok (.invokevirtual 68, 3) := by decide +kernel
theorem dL_runLength_8 : decode cL_runLength 8 = .ok (.i2l, 1) := by decide +kernel
theorem dL_runLength_9 : decode cL_runLength 9 = .ok (.lastore, 1) := by decide +kernel
theorem dL_runLength_10 : decode cL_runLength 10 = .ok (.goto 7, 3) := by decide +kernel
theorem dL_runLength_13 : decode cL_runLength 13 = .ok (.astore 4, 2) := by decide +kernel
theorem dL_runLength_15 : decode cL_runLength 15 = .ok (.iconst 1, 1) := by decide +kernel
theorem dL_runLength_16 : decode cL_runLength 16 = .ok (.ireturn, 1) := by decide +kernel
theorem dL_runLength_17 : decode cL_runLength 17 = .ok (.iconst 0, 1) := by decide +kernel
theorem dL_runLength_18 : decode cL_runLength 18 = .ok (.ireturn, 1) := by decide +kernel
set_option maxRecDepth 20000 in
theorem ggL_runAt_X11_runAt : GoodIn wsL_runAt wsX11_runAt := goodIn_ca (goodIn_r _ [6, 7, 8, 9, 10, 11, 12, 5, 13, 14, 15, 16, 17, 18, 19, 20, 21, 22, 23, 24, 25, 26, 27, 28, 29, 30, 31, 32, 33, 34, 35, 36, 37, 38, 39, 40, 41, 42, 43, 44, 45, 46, 47, 48, 49, 50, 51, 52, 53, 54, 55, 56, 57, 58, 59, 60, 61, 62, 63, 64, 65, 66, 67, 68, 69, 70, 71, 72, 73, 74, 75, 76, 77, 78, 79, 80, 81, 82, 83, 84, 85, 86, 87, 88, 89, 90, 91, 92, 93, 94, 95, 96, 97, 98, 99, 100, 101, 102, 103, 104, 105, 106, 107, 108, 109, 110, 111, 112, 113, 114, 115, 116, 117, 118, 119, 120, 121, 122, 123, 124, 125, 126, 127, 128, 129, 130, 131, 132, 133, 134, 135, 136, 137] (by decide +kernel) (by decide +kernel)) (goodIn_sub (fun _ h => List.mem_cons_of_mem _ (List.mem_append_right _ h)) (by decide +kernel))
set_option maxRecDepth 20000 in
theorem gL_runAt_X11_runAt : GoodIn wsL_runAt (wsV RL 71 RX11 yX11_runAt wsX11_runAt) := goodIn_app (goodIn_of _ (by decide +kernel)) ggL_runAt_X11_runAt
theorem dL_runAt_0 : decode cL_runAt 0 = .ok (.aload 4, 2) := by decide +kernel
theorem dL_runAt_2 : decode cL_runAt 2 = .ok (.iconst 0, 1) := by decide +kernel
theorem dL_runAt_3 : decode cL_runAt 3 = .ok (.aload_n 0, 1) := by decide +kernel
theorem dL_runAt_4 : decode cL_runAt 4 = .ok (.iload_n 1, 1) := by decide +kernel
theorem dL_runAt_5 : decode cL_runAt 5 = .ok (.iload_n 2, 1) := by decide +kernel
theorem dL_runAt_6 : decode cL_runAt 6 = .ok (.iload_n 3, 1) := by decide +kernel
theorem dL_runAt_7 : decode cL_runAt 7 = .ok (.invokevirtual 71, 3) := by decide +kernel
theorem dL_runAt_10 : decode cL_runAt 10 = .ok (.i2l, 1) := by decide +kernel
theorem dL_runAt_11 : decode cL_runAt 11 = .ok (.lastore, 1) := by decide +kernel
theorem dL_runAt_12 : decode cL_runAt 12 = .ok (.goto 7, 3) := by decide +kernel
theorem dL_runAt_15 : decode cL_runAt 15 = .ok (.astore 5, 2) := by decide +kernel
theorem dL_runAt_17 : decode cL_runAt 17 = .ok (.iconst 1, 1) := by decide +kernel
theorem dL_runAt_18 : decode cL_runAt 18 = .ok (.ireturn, 1) := by decide +kernel
theorem dL_runAt_19 : decode cL_runAt 19 = .ok (.iconst 0, 1) := by decide +kernel
theorem dL_runAt_20 : decode cL_runAt 20 = .ok (.ireturn, 1) := by decide +kernel
set_option maxRecDepth 20000 in
theorem ggL_plan_X11_plan : GoodIn wsL_plan wsX11_plan := goodIn_ca (goodIn_ca (goodIn_r _ [6, 7, 8, 9, 10, 11, 12, 13, 14, 5, 15, 16, 17, 18, 19, 20, 21, 22, 23, 24, 25, 26, 27, 28, 29, 30, 31, 32, 33, 34, 35, 36, 37, 38, 39, 40, 41, 42, 43, 44, 45, 46, 47, 48, 49, 50, 51, 52, 53, 54, 55, 56, 57, 58, 59, 60, 61, 62, 63, 64, 65, 66, 67, 68, 69, 70, 71, 72, 73, 74, 75, 76, 77, 78, 79, 80, 81, 82, 83, 84, 85, 86, 87, 88, 89, 90, 91, 92, 93, 94, 95, 96, 97, 98, 99, 100, 101, 102, 103, 104, 105, 106, 107, 108, 109, 110, 111, 112, 113, 114, 115, 116, 117, 118, 119, 120, 121, 122, 123, 124, 125, 126, 127, 128, 129, 130, 131, 132, 133, 134, 135, 136, 137, 138, 139, 140, 141, 142, 143, 144, 145, 146, 147, 148, 149, 150, 151, 152, 153, 154, 155, 156, 157, 158, 159, 160, 161, 162, 163, 164, 165, 166, 167, 168, 169, 170, 171, 172, 173, 174, 175, 176, 177, 178, 179, 180, 181, 182, 183, 184, 185, 186, 187, 188, 189, 190, 191, 192, 193, 194, 195, 196, 197, 198, 199, 200, 201, 202, 203, 204, 205, 206, 207, 208, 209, 210, 211, 212, 213, 214, 215, 216, 217, 218, 219, 220, 221, 222, 223, 224, 225, 226] (by decide +kernel) (by decide +kernel)) (goodIn_sub (fun _ h => List.mem_cons_of_mem _ (List.mem_append_left _ (List.mem_append_right _ h))) (by decide +kernel))) (goodIn_sub (fun _ h => List.mem_cons_of_mem _ (List.mem_append_right _ h)) (by decide +kernel))
set_option maxRecDepth 20000 in
theorem gL_plan_X11_plan : GoodIn wsL_plan (wsV RL 74 RX11 yX11_plan wsX11_plan) := goodIn_app (goodIn_of _ (by decide +kernel)) ggL_plan_X11_plan
theorem dL_plan_0 : decode cL_plan 0 = .ok (.aload_n 3, 1) := by decide +kernel
theorem dL_plan_1 : decode cL_plan 1 = .ok (.iconst 0, 1) := by decide +kernel
theorem dL_plan_2 : decode cL_plan 2 = .ok (.aload_n 0, 1) := by decide +kernel
theorem dL_plan_3 : decode cL_plan 3 = .ok (.iload_n 1, 1) := by decide +kernel
theorem dL_plan_4 : decode cL_plan 4 = .ok (.iload_n 2, 1) := by decide +kernel
theorem dL_plan_5 : decode cL_plan 5 = .ok (.invokevirtual 74, 3) := by decide +kernel
theorem dL_plan_8 : decode cL_plan 8 = .ok (.i2l, 1) := by decide +kernel
theorem dL_plan_9 : decode cL_plan 9 = .ok (.lastore, 1) := by decide +kernel
theorem dL_plan_10 : decode cL_plan 10 = .ok (.goto 11, 3) := by decide +kernel
theorem dL_plan_13 : decode cL_plan 13 = .ok (.astore 4, 2) := by decide +kernel
theorem dL_plan_15 : decode cL_plan 15 = .ok (.iconst 1, 1) := by decide +kernel
theorem dL_plan_16 : decode cL_plan 16 = .ok (.ireturn, 1) := by decide +kernel
theorem dL_plan_17 : decode cL_plan 17 = .ok (.astore 4, 2) := by decide +kernel
theorem dL_plan_19 : decode cL_plan 19 = .ok (.iconst 2, 1) := by decide +kernel
theorem dL_plan_20 : decode cL_plan 20 = .ok (.ireturn, 1) := by decide +kernel
theorem dL_plan_21 : decode cL_plan 21 = .ok (.iconst 0, 1) := by decide +kernel
theorem dL_plan_22 : decode cL_plan 22 = .ok (.ireturn, 1) := by decide +kernel
set_option maxRecDepth 20000 in
theorem ggL_leastMoves_X11_leastMoves : GoodIn wsL_leastMoves wsX11_leastMoves := goodIn_ca (goodIn_r _ [6, 7, 8, 9, 10, 11, 12, 13, 14, 5, 15, 16, 17, 18, 19, 20, 21, 22, 23, 24, 25, 26, 27, 28, 29, 30, 31, 32, 33, 34, 35, 36, 37, 38, 39, 40, 41, 42, 43, 44, 45, 46, 47, 48, 49, 50, 51, 52, 53, 54, 55, 56, 57, 58, 59, 60, 61, 62, 63, 64, 65, 66, 67, 68, 69, 70, 71, 72, 73, 74, 75, 76, 77, 78, 79, 80, 81, 82, 83, 84, 85, 86, 87, 88, 89, 90, 91, 92, 93, 94, 95, 96, 97, 98, 99, 100, 101, 102, 103, 104, 105, 106, 107, 108, 109, 110, 111, 112, 113, 114, 115, 116, 117, 118, 119, 120, 121, 122, 123, 124, 125, 126, 127, 128, 129, 130, 131, 132, 133, 134, 135, 136, 137, 138, 139, 140, 141, 142, 143, 144, 145, 146, 147, 148, 149, 150, 151] (by decide +kernel) (by decide +kernel)) (goodIn_sub (fun _ h => List.mem_cons_of_mem _ (List.mem_append_right _ h)) (by decide +kernel))
set_option maxRecDepth 20000 in
theorem gL_leastMoves_X11_leastMoves : GoodIn wsL_leastMoves (wsV RL 77 RX11 yX11_leastMoves wsX11_leastMoves) := goodIn_app (goodIn_of _ (by decide +kernel)) ggL_leastMoves_X11_leastMoves
theorem dL_leastMoves_0 : decode cL_leastMoves 0 = .ok (.aload_n 2, 1) := by decide +kernel
theorem dL_leastMoves_1 : decode cL_leastMoves 1 = .ok (.iconst 0, 1) := by decide +kernel
theorem dL_leastMoves_2 : decode cL_leastMoves 2 = .ok (.aload_n 0, 1) := by decide +kernel
theorem dL_leastMoves_3 : decode cL_leastMoves 3 = .ok (.iload_n 1, 1) := by decide +kernel
theorem dL_leastMoves_4 : decode cL_leastMoves 4 = .ok (.invokevirtual 77, 3) := by decide +kernel
theorem dL_leastMoves_7 : decode cL_leastMoves 7 = .ok (.i2l, 1) := by decide +kernel
theorem dL_leastMoves_8 : decode cL_leastMoves 8 = .ok (.lastore, 1) := by decide +kernel
theorem dL_leastMoves_9 : decode cL_leastMoves 9 = .ok (.goto 6, 3) := by decide +kernel
theorem dL_leastMoves_12 : decode cL_leastMoves 12 = .ok (.astore_n 3, 1) := by decide +kernel
theorem dL_leastMoves_13 : decode cL_leastMoves 13 = .ok (.iconst 1, 1) := by decide +kernel
theorem dL_leastMoves_14 : decode cL_leastMoves 14 = .ok (.ireturn, 1) := by decide +kernel
theorem dL_leastMoves_15 : decode cL_leastMoves 15 = .ok (.iconst 0, 1) := by decide +kernel
theorem dL_leastMoves_16 : decode cL_leastMoves 16 = .ok (.ireturn, 1) := by decide +kernel
set_option maxRecDepth 20000 in
theorem ggL_begin_X11_begin : GoodIn wsL_begin wsX11_begin := goodIn_ca (goodIn_r _ [6, 7, 8, 9, 10, 11, 12, 13, 5, 14, 15, 16, 17, 18, 19, 20, 21, 22, 23, 24, 25, 26, 27, 28, 29, 30, 31, 32, 33, 34, 35, 36, 37, 38, 39, 40, 41, 42, 43, 44, 45, 46, 47, 48, 49, 50, 51, 52, 53, 54, 55, 56, 57, 58, 59, 60, 61, 62, 63, 64, 65, 66, 67, 68, 69, 70, 71, 72, 73, 74, 75, 76, 77, 78, 79, 80, 81, 82, 83, 84, 85, 86, 87, 88, 89, 90, 91, 92, 93, 94, 95, 96, 97, 98, 99, 100, 101, 102, 103, 104, 105, 106, 107, 108, 109, 110, 111, 112, 113, 114, 115, 116, 117, 118, 119, 120, 121, 122, 123, 124, 125, 126, 127, 128, 129, 130, 131, 132, 133, 134, 135, 136, 137, 138, 139, 140, 141, 142, 143, 144, 145, 146, 147, 148, 149, 150, 151, 152, 153, 154, 155, 156, 157, 158, 159, 160, 161, 162, 163, 164, 165, 166, 167, 168, 169, 170, 171, 172, 173, 174, 175, 176, 177, 178, 179, 180, 181, 182, 183, 184, 185, 186, 187, 188, 189, 190, 191, 192, 193, 194, 195, 196, 197, 198, 199, 200, 201, 202, 203, 204] (by decide +kernel) (by decide +kernel)) (goodIn_sub (fun _ h => List.mem_cons_of_mem _ (List.mem_append_right _ h)) (by decide +kernel))
set_option maxRecDepth 20000 in
theorem gL_begin_X11_begin : GoodIn wsL_begin (wsV RL 80 RX11 yX11_begin wsX11_begin) := goodIn_app (goodIn_of _ (by decide +kernel)) ggL_begin_X11_begin
theorem dL_begin_0 : decode cL_begin 0 = .ok (.aload_n 3, 1) := by decide +kernel
theorem dL_begin_1 : decode cL_begin 1 = .ok (.iconst 0, 1) := by decide +kernel
theorem dL_begin_2 : decode cL_begin 2 = .ok (.aload_n 0, 1) := by decide +kernel
theorem dL_begin_3 : decode cL_begin 3 = .ok (.iload_n 1, 1) := by decide +kernel
theorem dL_begin_4 : decode cL_begin 4 = .ok (.iload_n 2, 1) := by decide +kernel
theorem dL_begin_5 : decode cL_begin 5 = .ok (.invokevirtual 80, 3) := by decide +kernel
theorem dL_begin_8 : decode cL_begin 8 = .ok (.i2l, 1) := by decide +kernel
theorem dL_begin_9 : decode cL_begin 9 = .ok (.lastore, 1) := by decide +kernel
theorem dL_begin_10 : decode cL_begin 10 = .ok (.goto 7, 3) := by decide +kernel
theorem dL_begin_13 : decode cL_begin 13 = .ok (.astore 4, 2) := by decide +kernel
theorem dL_begin_15 : decode cL_begin 15 = .ok (.iconst 1, 1) := by decide +kernel
theorem dL_begin_16 : decode cL_begin 16 = .ok (.ireturn, 1) := by decide +kernel
theorem dL_begin_17 : decode cL_begin 17 = .ok (.iconst 0, 1) := by decide +kernel
theorem dL_begin_18 : decode cL_begin 18 = .ok (.ireturn, 1) := by decide +kernel
set_option maxRecDepth 20000 in
theorem ggL_work_X11_work : GoodIn wsL_work wsX11_work := goodIn_ca (goodIn_ca (goodIn_ca (goodIn_r _ [6, 7, 8, 9, 10, 5, 11, 12, 13, 14, 15, 16, 17, 18, 19, 20, 21, 22, 23, 24, 25, 26, 27, 28, 29, 30, 31, 32, 33, 34, 35, 36, 37, 38, 39, 40, 41, 42, 43, 44, 45, 46, 47, 48, 49, 50, 51, 52, 53, 54, 55, 56, 57, 58, 59, 60, 61, 62, 63, 64, 65, 66, 67, 68, 69, 70, 71, 72, 73, 74, 75, 76, 77, 78, 79, 80, 81, 82, 83, 84, 85, 86, 87, 88, 89, 90, 91, 92, 93, 94, 95, 96, 97, 98, 99, 100, 101, 102, 103, 104, 105, 106, 107, 108, 109, 110, 111, 112, 113, 114, 115, 116, 117, 118, 119, 120, 121, 122, 123, 124, 125, 126, 127, 128, 129, 130, 131, 132, 133, 134, 135, 136, 137, 138, 139, 140, 141, 142, 143, 144, 145, 146, 147, 148, 149, 150, 151, 152, 153, 154, 155, 156, 157, 158, 159, 160, 161, 162, 163, 164, 165, 166, 167, 168, 169, 170, 171, 172, 173, 174, 175, 176, 177, 178, 179, 180, 181, 182, 183, 184, 185, 186, 187, 188, 189, 190, 191, 192, 193, 194, 195] (by decide +kernel) (by decide +kernel)) (goodIn_sub (fun _ h => List.mem_cons_of_mem _ (List.mem_append_left _ (List.mem_append_left _ (List.mem_append_right _ h)))) (by decide +kernel))) (goodIn_sub (fun _ h => List.mem_cons_of_mem _ (List.mem_append_left _ (List.mem_append_right _ h))) (by decide +kernel))) (goodIn_sub (fun _ h => List.mem_cons_of_mem _ (List.mem_append_right _ h)) (by decide +kernel))
set_option maxRecDepth 20000 in
theorem gL_work_X11_work : GoodIn wsL_work (wsV RL 83 RX11 yX11_work wsX11_work) := goodIn_app (goodIn_of _ (by decide +kernel)) ggL_work_X11_work
theorem dL_work_0 : decode cL_work 0 = .ok (.aload_n 2, 1) := by decide +kernel
theorem dL_work_1 : decode cL_work 1 = .ok (.iconst 0, 1) := by decide +kernel
theorem dL_work_2 : decode cL_work 2 = .ok (.aload_n 0, 1) := by decide +kernel
theorem dL_work_3 : decode cL_work 3 = .ok (.iload_n 1, 1) := by decide +kernel
theorem dL_work_4 : decode cL_work 4 = .ok (.invokevirtual 83, 3) := by decide +kernel
theorem dL_work_7 : decode cL_work 7 = .ok (.i2l, 1) := by decide +kernel
theorem dL_work_8 : decode cL_work 8 = .ok (.lastore, 1) := by decide +kernel
theorem dL_work_9 : decode cL_work 9 = .ok (.goto 9, 3) := by decide +kernel
theorem dL_work_12 : decode cL_work 12 = .ok (.astore_n 3, 1) := by decide +kernel
theorem dL_work_13 : decode cL_work 13 = .ok (.iconst 1, 1) := by decide +kernel
theorem dL_work_14 : decode cL_work 14 = .ok (.ireturn, 1) := by decide +kernel
theorem dL_work_15 : decode cL_work 15 = .ok (.astore_n 3, 1) := by decide +kernel
theorem dL_work_16 : decode cL_work 16 = .ok (.iconst 2, 1) := by decide +kernel
theorem dL_work_17 : decode cL_work 17 = .ok (.ireturn, 1) := by decide +kernel
theorem dL_work_18 : decode cL_work 18 = .ok (.iconst 0, 1) := by decide +kernel
theorem dL_work_19 : decode cL_work 19 = .ok (.ireturn, 1) := by decide +kernel
set_option maxRecDepth 20000 in
theorem ggL_tear_X11_tear : GoodIn wsL_tear wsX11_tear := goodIn_ca (goodIn_r _ [6, 7, 8, 9, 10, 5, 11, 12, 13, 14, 15, 16, 17, 18, 19, 20, 21, 22, 23, 24, 25, 26, 27, 28, 29, 30, 31, 32, 33, 34, 35, 36, 37, 38, 39, 40, 41, 42, 43, 44, 45, 46, 47, 48, 49, 50, 51, 52, 53, 54, 55, 56, 57, 58, 59, 60, 61, 62, 63, 64, 65, 66, 67, 68] (by decide +kernel) (by decide +kernel)) (goodIn_sub (fun _ h => List.mem_cons_of_mem _ (List.mem_append_right _ h)) (by decide +kernel))
set_option maxRecDepth 20000 in
theorem gL_tear_X11_tear : GoodIn wsL_tear (wsV RL 86 RX11 yX11_tear wsX11_tear) := goodIn_app (goodIn_of _ (by decide +kernel)) ggL_tear_X11_tear
theorem dL_tear_0 : decode cL_tear 0 = .ok (.aload_n 1, 1) := by decide +kernel
theorem dL_tear_1 : decode cL_tear 1 = .ok (.iconst 0, 1) := by decide +kernel
theorem dL_tear_2 : decode cL_tear 2 = .ok (.aload_n 0, 1) := by decide +kernel
theorem dL_tear_3 : decode cL_tear 3 = .ok (.invokevirtual 86, 3) := by decide +kernel
theorem dL_tear_6 : decode cL_tear 6 = .ok (.i2l, 1) := by decide +kernel
theorem dL_tear_7 : decode cL_tear 7 = .ok (.lastore, 1) := by decide +kernel
theorem dL_tear_8 : decode cL_tear 8 = .ok (.goto 6, 3) := by decide +kernel
theorem dL_tear_11 : decode cL_tear 11 = .ok (.astore_n 2, 1) := by decide +kernel
theorem dL_tear_12 : decode cL_tear 12 = .ok (.iconst 1, 1) := by decide +kernel
theorem dL_tear_13 : decode cL_tear 13 = .ok (.ireturn, 1) := by decide +kernel
theorem dL_tear_14 : decode cL_tear 14 = .ok (.iconst 0, 1) := by decide +kernel
theorem dL_tear_15 : decode cL_tear 15 = .ok (.ireturn, 1) := by decide +kernel
set_option maxRecDepth 20000 in
theorem ggL_job_X11_job : GoodIn wsL_job wsX11_job := goodIn_ca (goodIn_ca (goodIn_r _ [6, 7, 8, 9, 10, 11, 12, 13, 5, 14, 15, 16, 17, 18, 19, 20, 21, 22, 23, 24, 25, 26, 27, 28, 29, 30, 31, 32, 33, 34, 35, 36, 37, 38, 39, 40, 41, 42, 43, 44, 45, 46, 47, 48, 49, 50, 51, 52, 53, 54, 55, 56, 57, 58, 59, 60, 61, 62, 63, 64, 65, 66, 67, 68, 69, 70, 71, 72, 73] (by decide +kernel) (by decide +kernel)) (goodIn_sub (fun _ h => List.mem_cons_of_mem _ (List.mem_append_left _ (List.mem_append_right _ h))) (by decide +kernel))) (goodIn_sub (fun _ h => List.mem_cons_of_mem _ (List.mem_append_right _ h)) (by decide +kernel))
set_option maxRecDepth 20000 in
theorem gL_job_X11_job : GoodIn wsL_job (wsV RL 90 RX11 yX11_job wsX11_job) := goodIn_app (goodIn_of _ (by decide +kernel)) ggL_job_X11_job
theorem dL_job_0 : decode cL_job 0 = .ok (.aload_n 2, 1) := by decide +kernel
theorem dL_job_1 : decode cL_job 1 = .ok (.iconst 0, 1) := by decide +kernel
theorem dL_job_2 : decode cL_job 2 = .ok (.aload_n 0, 1) := by decide +kernel
theorem dL_job_3 : decode cL_job 3 = .ok (.iload_n 1, 1) := by decide +kernel
theorem dL_job_4 : decode cL_job 4 = .ok (.invokevirtual 90, 3) := by decide +kernel
theorem dL_job_7 : decode cL_job 7 = .ok (.i2l, 1) := by decide +kernel
theorem dL_job_8 : decode cL_job 8 = .ok (.lastore, 1) := by decide +kernel
theorem dL_job_9 : decode cL_job 9 = .ok (.goto 9, 3) := by decide +kernel
theorem dL_job_12 : decode cL_job 12 = .ok (.astore_n 3, 1) := by decide +kernel
theorem dL_job_13 : decode cL_job 13 = .ok (.iconst 1, 1) := by decide +kernel
theorem dL_job_14 : decode cL_job 14 = .ok (.ireturn, 1) := by decide +kernel
theorem dL_job_15 : decode cL_job 15 = .ok (.astore_n 3, 1) := by decide +kernel
theorem dL_job_16 : decode cL_job 16 = .ok (.iconst 2, 1) := by decide +kernel
theorem dL_job_17 : decode cL_job 17 = .ok (.ireturn, 1) := by decide +kernel
theorem dL_job_18 : decode cL_job 18 = .ok (.iconst 0, 1) := by decide +kernel
theorem dL_job_19 : decode cL_job 19 = .ok (.ireturn, 1) := by decide +kernel
set_option maxRecDepth 20000 in
theorem ggL_sort_X11_sort : GoodIn wsL_sort wsX11_sort := goodIn_ca (goodIn_r _ [6, 7, 8, 9, 10, 11, 12, 5, 13, 14, 15, 16, 17, 18, 19, 20, 21, 22, 23, 24, 25, 26, 27, 28, 29, 30, 31, 32, 33, 34, 35, 36, 37, 38, 39, 40, 41, 42, 43, 44, 45, 46, 47, 48, 49, 50, 51, 52, 53, 54, 55, 56, 57, 58, 59, 60, 61, 62, 63, 64, 65, 66, 67, 68, 69, 70, 71, 72, 73, 74, 75, 76, 77, 78, 79, 80, 81, 82, 83, 84, 85, 86, 87, 88, 89, 90, 91, 92, 93, 94, 95, 96, 97, 98, 99, 100, 101, 102, 103, 104, 105, 106, 107, 108, 109, 110, 111, 112, 113, 114, 115, 116, 117, 118, 119, 120, 121, 122, 123, 124, 125, 126, 127, 128, 129, 130, 131, 132, 133, 134, 135, 136, 137, 138, 139, 140, 141, 142, 143, 144, 145, 146, 147, 148, 149, 150, 151, 152, 153, 154, 155, 156, 157, 158, 159, 160, 161, 162, 163, 164, 165, 166, 167, 168, 169, 170, 171, 172, 173, 174, 175, 176, 177, 178, 179, 180, 181, 182, 183, 184, 185, 186, 187, 188, 189, 190, 191, 192, 193, 194, 195, 196, 197, 198, 199, 200, 201, 202, 203, 204, 205, 206, 207, 208, 209, 210, 211, 212, 213, 214, 215, 216, 217, 218, 219, 220, 221, 222, 223, 224, 225, 226, 227, 228, 229, 230, 231, 232, 233, 234, 235, 236, 237, 238, 239, 240, 241, 242, 243, 244, 245, 246, 247, 248, 249, 250, 251, 252, 253, 254, 255, 256, 257, 258, 259, 260, 261, 262, 263, 264, 265, 266, 267, 268, 269] (by decide +kernel) (by decide +kernel)) (goodIn_sub (fun _ h => List.mem_cons_of_mem _ (List.mem_append_right _ h)) (by decide +kernel))
set_option maxRecDepth 20000 in
theorem gL_sort_X11_sort : GoodIn wsL_sort (wsV RL 93 RX11 yX11_sort wsX11_sort) := goodIn_app (goodIn_of _ (by decide +kernel)) ggL_sort_X11_sort
theorem dL_sort_0 : decode cL_sort 0 = .ok (.aload_n 3, 1) := by decide +kernel
theorem dL_sort_1 : decode cL_sort 1 = .ok (.iconst 0, 1) := by decide +kernel
theorem dL_sort_2 : decode cL_sort 2 = .ok (.aload_n 0, 1) := by decide +kernel
theorem dL_sort_3 : decode cL_sort 3 = .ok (.iload_n 1, 1) := by decide +kernel
theorem dL_sort_4 : decode cL_sort 4 = .ok (.iload_n 2, 1) := by decide +kernel
theorem dL_sort_5 : decode cL_sort 5 = .ok (.invokevirtual 93, 3) := by decide +kernel
theorem dL_sort_8 : decode cL_sort 8 = .ok (.i2l, 1) := by decide +kernel
theorem dL_sort_9 : decode cL_sort 9 = .ok (.lastore, 1) := by decide +kernel
theorem dL_sort_10 : decode cL_sort 10 = .ok (.goto 7, 3) := by decide +kernel
theorem dL_sort_13 : decode cL_sort 13 = .ok (.astore 4, 2) := by decide +kernel
theorem dL_sort_15 : decode cL_sort 15 = .ok (.iconst 1, 1) := by decide +kernel
theorem dL_sort_16 : decode cL_sort 16 = .ok (.ireturn, 1) := by decide +kernel
theorem dL_sort_17 : decode cL_sort 17 = .ok (.iconst 0, 1) := by decide +kernel
theorem dL_sort_18 : decode cL_sort 18 = .ok (.ireturn, 1) := by decide +kernel
set_option maxRecDepth 20000 in
theorem ggL_combine_X11_combine : GoodIn wsL_combine wsX11_combine := goodIn_ca (goodIn_ca (goodIn_ca (goodIn_r _ [6, 7, 8, 9, 10, 11, 5, 12, 13, 14, 15, 16, 17, 18, 19, 20, 21, 22, 23, 24, 25, 26, 27, 28, 29, 30, 31, 32, 33, 34, 35, 36, 37, 38, 39, 40, 41, 42, 43, 44, 45, 46, 47, 48, 49, 50, 51, 52, 53, 54, 55, 56, 57, 58, 59, 60, 61, 62, 63, 64, 65, 66, 67, 68, 69, 70, 71, 72, 73, 74, 75, 76, 77, 78, 79, 80, 81, 82, 83, 84, 85, 86, 87, 88, 89, 90, 91, 92, 93, 94, 95, 96, 97, 98] (by decide +kernel) (by decide +kernel)) (goodIn_sub (fun _ h => List.mem_cons_of_mem _ (List.mem_append_left _ (List.mem_append_left _ (List.mem_append_right _ h)))) (by decide +kernel))) (goodIn_sub (fun _ h => List.mem_cons_of_mem _ (List.mem_append_left _ (List.mem_append_right _ h))) (by decide +kernel))) (goodIn_sub (fun _ h => List.mem_cons_of_mem _ (List.mem_append_right _ h)) (by decide +kernel))
set_option maxRecDepth 20000 in
theorem gL_combine_X11_combine : GoodIn wsL_combine (wsV RL 96 RX11 yX11_combine wsX11_combine) := goodIn_app (goodIn_of _ (by decide +kernel)) ggL_combine_X11_combine
theorem dL_combine_0 : decode cL_combine 0 = .ok (.aload 5, 2) := by decide +kernel
theorem dL_combine_2 : decode cL_combine 2 = .ok (.iconst 0, 1) := by decide +kernel
theorem dL_combine_3 : decode cL_combine 3 = .ok (.aload_n 0, 1) := by decide +kernel
theorem dL_combine_4 : decode cL_combine 4 = .ok (.iload_n 1, 1) := by decide +kernel
theorem dL_combine_5 : decode cL_combine 5 = .ok (.iload_n 2, 1) := by decide +kernel
theorem dL_combine_6 : decode cL_combine 6 = .ok (.iload_n 3, 1) := by decide +kernel
theorem dL_combine_7 : decode cL_combine 7 = .ok (.iload 4, 2) := by decide +kernel
theorem dL_combine_9 : decode cL_combine 9 = .ok (.invokevirtual 96, 3) := by decide +kernel
theorem dL_combine_12 : decode cL_combine 12 = .ok (.i2l, 1) := by decide +kernel
theorem dL_combine_13 : decode cL_combine 13 = .ok (.lastore, 1) := by decide +kernel
theorem dL_combine_14 : decode cL_combine 14 = .ok (.goto 15, 3) := by decide +kernel
theorem dL_combine_17 : decode cL_combine 17 = .ok (.astore 6, 2) := by decide +kernel
theorem dL_combine_19 : decode cL_combine 19 = .ok (.iconst 1, 1) := by decide +kernel
theorem dL_combine_20 : decode cL_combine 20 = .ok (.ireturn, 1) := by decide +kernel
theorem dL_combine_21 : decode cL_combine 21 = .ok (.astore 6, 2) := by decide +kernel
theorem dL_combine_23 : decode cL_combine 23 = .ok (.iconst 2, 1) := by decide +kernel
theorem dL_combine_24 : decode cL_combine 24 = .ok (.ireturn, 1) := by decide +kernel
theorem dL_combine_25 : decode cL_combine 25 = .ok (.astore 6, 2) := by decide +kernel
theorem dL_combine_27 : decode cL_combine 27 = .ok (.iconst 3, 1) := by decide +kernel
theorem dL_combine_28 : decode cL_combine 28 = .ok (.ireturn, 1) := by decide +kernel
theorem dL_combine_29 : decode cL_combine 29 = .ok (.iconst 0, 1) := by decide +kernel
theorem dL_combine_30 : decode cL_combine 30 = .ok (.ireturn, 1) := by decide +kernel
set_option maxRecDepth 20000 in
theorem ggL_thin_X11_thin : GoodIn wsL_thin wsX11_thin := goodIn_ca (goodIn_r _ [6, 7, 8, 9, 10, 5, 11, 12, 13, 14, 15, 16, 17, 18, 19, 20, 21, 22, 23, 24, 25, 26, 27, 28, 29, 30, 31, 32, 33, 34, 35, 36, 37, 38, 39, 40, 41, 42, 43, 44, 45, 46, 47, 48, 49, 50, 51, 52, 53, 54, 55, 56, 57] (by decide +kernel) (by decide +kernel)) (goodIn_sub (fun _ h => List.mem_cons_of_mem _ (List.mem_append_right _ h)) (by decide +kernel))
set_option maxRecDepth 20000 in
theorem gL_thin_X11_thin : GoodIn wsL_thin (wsV RL 99 RX11 yX11_thin wsX11_thin) := goodIn_app (goodIn_of _ (by decide +kernel)) ggL_thin_X11_thin
theorem dL_thin_0 : decode cL_thin 0 = .ok (.aload_n 3, 1) := by decide +kernel
theorem dL_thin_1 : decode cL_thin 1 = .ok (.iconst 0, 1) := by decide +kernel
theorem dL_thin_2 : decode cL_thin 2 = .ok (.aload_n 0, 1) := by decide +kernel
theorem dL_thin_3 : decode cL_thin 3 = .ok (.iload_n 1, 1) := by decide +kernel
theorem dL_thin_4 : decode cL_thin 4 = .ok (.iload_n 2, 1) := by decide +kernel
theorem dL_thin_5 : decode cL_thin 5 = .ok (.invokevirtual 99, 3) := by decide +kernel
theorem dL_thin_8 : decode cL_thin 8 = .ok (.i2l, 1) := by decide +kernel
theorem dL_thin_9 : decode cL_thin 9 = .ok (.lastore, 1) := by decide +kernel
theorem dL_thin_10 : decode cL_thin 10 = .ok (.goto 7, 3) := by decide +kernel
theorem dL_thin_13 : decode cL_thin 13 = .ok (.astore 4, 2) := by decide +kernel
theorem dL_thin_15 : decode cL_thin 15 = .ok (.iconst 1, 1) := by decide +kernel
theorem dL_thin_16 : decode cL_thin 16 = .ok (.ireturn, 1) := by decide +kernel
theorem dL_thin_17 : decode cL_thin 17 = .ok (.iconst 0, 1) := by decide +kernel
theorem dL_thin_18 : decode cL_thin 18 = .ok (.ireturn, 1) := by decide +kernel
set_option maxRecDepth 20000 in
theorem ggL_find_X11_find : GoodIn wsL_find wsX11_find := goodIn_ca (goodIn_ca (goodIn_r _ [6, 7, 8, 9, 10, 5, 11, 12, 13, 14, 15, 16, 17, 18, 19, 20, 21, 22, 23, 24, 25, 26, 27, 28, 29, 30, 31, 32, 33, 34, 35, 36, 37, 38, 39, 40, 41, 42, 43, 44, 45, 46, 47, 48, 49, 50, 51, 52, 53, 54, 55, 56, 57, 58, 59, 60, 61, 62, 63, 64, 65, 66, 67, 68] (by decide +kernel) (by decide +kernel)) (goodIn_sub (fun _ h => List.mem_cons_of_mem _ (List.mem_append_left _ (List.mem_append_right _ h))) (by decide +kernel))) (goodIn_sub (fun _ h => List.mem_cons_of_mem _ (List.mem_append_right _ h)) (by decide +kernel))
set_option maxRecDepth 20000 in
theorem gL_find_X11_find : GoodIn wsL_find (wsV RL 103 RX11 yX11_find wsX11_find) := goodIn_app (goodIn_of _ (by decide +kernel)) ggL_find_X11_find
theorem dL_find_0 : decode cL_find 0 = .ok (.aload_n 3, 1) := by decide +kernel
theorem dL_find_1 : decode cL_find 1 = .ok (.iconst 0, 1) := by decide +kernel
theorem dL_find_2 : decode cL_find 2 = .ok (.aload_n 0, 1) := by decide +kernel
theorem dL_find_3 : decode cL_find 3 = .ok (.iload_n 1, 1) := by decide +kernel
theorem dL_find_4 : decode cL_find 4 = .ok (.iload_n 2, 1) := by decide +kernel
theorem dL_find_5 : decode cL_find 5 = .ok (.invokevirtual 103, 3) := by decide +kernel
theorem dL_find_8 : decode cL_find 8 = .ok (.i2l, 1) := by decide +kernel
theorem dL_find_9 : decode cL_find 9 = .ok (.lastore, 1) := by decide +kernel
theorem dL_find_10 : decode cL_find 10 = .ok (.goto 11, 3) := by decide +kernel
theorem dL_find_13 : decode cL_find 13 = .ok (.astore 4, 2) := by decide +kernel
theorem dL_find_15 : decode cL_find 15 = .ok (.iconst 1, 1) := by decide +kernel
theorem dL_find_16 : decode cL_find 16 = .ok (.ireturn, 1) := by decide +kernel
theorem dL_find_17 : decode cL_find 17 = .ok (.astore 4, 2) := by decide +kernel
theorem dL_find_19 : decode cL_find 19 = .ok (.iconst 2, 1) := by decide +kernel
theorem dL_find_20 : decode cL_find 20 = .ok (.ireturn, 1) := by decide +kernel
theorem dL_find_21 : decode cL_find 21 = .ok (.iconst 0, 1) := by decide +kernel
theorem dL_find_22 : decode cL_find 22 = .ok (.ireturn, 1) := by decide +kernel
set_option maxRecDepth 20000 in
theorem ggL_floor_X11_floor : GoodIn wsL_floor wsX11_floor := goodIn_ca (goodIn_ca (goodIn_ca (goodIn_r _ [6, 7, 8, 9, 10, 11, 12, 5, 13, 14, 15, 16, 17, 18, 19, 20, 21, 22, 23, 24, 25, 26, 27, 28, 29, 30, 31, 32, 33, 34, 35, 36, 37, 38, 39, 40, 41, 42, 43, 44, 45, 46, 47, 48, 49, 50, 51, 52, 53, 54, 55, 56, 57, 58, 59, 60, 61, 62, 63, 64, 65, 66, 67, 68, 69, 70] (by decide +kernel) (by decide +kernel)) (goodIn_sub (fun _ h => List.mem_cons_of_mem _ (List.mem_append_left _ (List.mem_append_left _ (List.mem_append_right _ h)))) (by decide +kernel))) (goodIn_sub (fun _ h => List.mem_cons_of_mem _ (List.mem_append_left _ (List.mem_append_right _ h))) (by decide +kernel))) (goodIn_sub (fun _ h => List.mem_cons_of_mem _ (List.mem_append_right _ h)) (by decide +kernel))
set_option maxRecDepth 20000 in
theorem gL_floor_X11_floor : GoodIn wsL_floor (wsV RL 106 RX11 yX11_floor wsX11_floor) := goodIn_app (goodIn_of _ (by decide +kernel)) ggL_floor_X11_floor
theorem dL_floor_0 : decode cL_floor 0 = .ok (.aload_n 3, 1) := by decide +kernel
theorem dL_floor_1 : decode cL_floor 1 = .ok (.iconst 0, 1) := by decide +kernel
theorem dL_floor_2 : decode cL_floor 2 = .ok (.aload_n 0, 1) := by decide +kernel
theorem dL_floor_3 : decode cL_floor 3 = .ok (.iload_n 1, 1) := by decide +kernel
theorem dL_floor_4 : decode cL_floor 4 = .ok (.iload_n 2, 1) := by decide +kernel
theorem dL_floor_5 : decode cL_floor 5 = .ok (.invokevirtual 106, 3) := by decide +kernel
theorem dL_floor_8 : decode cL_floor 8 = .ok (.i2l, 1) := by decide +kernel
theorem dL_floor_9 : decode cL_floor 9 = .ok (.lastore, 1) := by decide +kernel
theorem dL_floor_10 : decode cL_floor 10 = .ok (.goto 15, 3) := by decide +kernel
theorem dL_floor_13 : decode cL_floor 13 = .ok (.astore 4, 2) := by decide +kernel
theorem dL_floor_15 : decode cL_floor 15 = .ok (.iconst 1, 1) := by decide +kernel
theorem dL_floor_16 : decode cL_floor 16 = .ok (.ireturn, 1) := by decide +kernel
theorem dL_floor_17 : decode cL_floor 17 = .ok (.astore 4, 2) := by decide +kernel
theorem dL_floor_19 : decode cL_floor 19 = .ok (.iconst 2, 1) := by decide +kernel
theorem dL_floor_20 : decode cL_floor 20 = .ok (.ireturn, 1) := by decide +kernel
theorem dL_floor_21 : decode cL_floor 21 = .ok (.astore 4, 2) := by decide +kernel
theorem dL_floor_23 : decode cL_floor 23 = .ok (.iconst 3, 1) := by decide +kernel
theorem dL_floor_24 : decode cL_floor 24 = .ok (.ireturn, 1) := by decide +kernel
theorem dL_floor_25 : decode cL_floor 25 = .ok (.iconst 0, 1) := by decide +kernel
theorem dL_floor_26 : decode cL_floor 26 = .ok (.ireturn, 1) := by decide +kernel
set_option maxRecDepth 20000 in
theorem ggL_ceiling_X11_ceiling : GoodIn wsL_ceiling wsX11_ceiling := goodIn_ca (goodIn_ca (goodIn_ca (goodIn_r _ [6, 7, 8, 9, 10, 11, 12, 5, 13, 14, 15, 16, 17, 18, 19, 20, 21, 22, 23, 24, 25, 26, 27, 28, 29, 30, 31, 32, 33, 34, 35, 36, 37, 38, 39, 40, 41, 42, 43, 44, 45, 46, 47, 48, 49, 50, 51, 52, 53, 54, 55, 56, 57, 58, 59, 60, 61, 62, 63, 64, 65, 66, 67, 68, 69, 70] (by decide +kernel) (by decide +kernel)) (goodIn_sub (fun _ h => List.mem_cons_of_mem _ (List.mem_append_left _ (List.mem_append_left _ (List.mem_append_right _ h)))) (by decide +kernel))) (goodIn_sub (fun _ h => List.mem_cons_of_mem _ (List.mem_append_left _ (List.mem_append_right _ h))) (by decide +kernel))) (goodIn_sub (fun _ h => List.mem_cons_of_mem _ (List.mem_append_right _ h)) (by decide +kernel))
set_option maxRecDepth 20000 in
theorem gL_ceiling_X11_ceiling : GoodIn wsL_ceiling (wsV RL 111 RX11 yX11_ceiling wsX11_ceiling) := goodIn_app (goodIn_of _ (by decide +kernel)) ggL_ceiling_X11_ceiling
theorem dL_ceiling_0 : decode cL_ceiling 0 = .ok (.aload_n 3, 1) := by decide +kernel
theorem dL_ceiling_1 : decode cL_ceiling 1 = .ok (.iconst 0, 1) := by decide +kernel
theorem dL_ceiling_2 : decode cL_ceiling 2 = .ok (.aload_n 0, 1) := by decide +kernel
theorem dL_ceiling_3 : decode cL_ceiling 3 = .ok (.iload_n 1, 1) := by decide +kernel
theorem dL_ceiling_4 : decode cL_ceiling 4 = .ok (.iload_n 2, 1) := by decide +kernel
theorem dL_ceiling_5 : decode cL_ceiling 5 = .ok (.invokevirtual 111, 3) := by decide +kernel
theorem dL_ceiling_8 : decode cL_ceiling 8 = .ok (.i2l, 1) := by decide +kernel
theorem dL_ceiling_9 : decode cL_ceiling 9 = .ok (.lastore, 1) := by decide +kernel
theorem dL_ceiling_10 : decode cL_ceiling 10 = .ok (.goto 15, 3) := by decide +kernel
theorem dL_ceiling_13 : decode cL_ceiling 13 = .ok (.astore 4, 2) := by decide +kernel
theorem dL_ceiling_15 : decode cL_ceiling 15 = .ok (.iconst 1, 1) := by decide +kernel
theorem dL_ceiling_16 : decode cL_ceiling 16 = .ok (.ireturn, 1) := by decide +kernel
theorem dL_ceiling_17 : decode cL_ceiling 17 = .ok (.astore 4, 2) := by decide +kernel
theorem dL_ceiling_19 : decode cL_ceiling 19 = .ok (.iconst 2, 1) := by decide +kernel
theorem dL_ceiling_20 : decode cL_ceiling 20 = .ok (.ireturn, 1) := by decide +kernel
theorem dL_ceiling_21 : decode cL_ceiling 21 = .ok (.astore 4, 2) := by decide +kernel
theorem dL_ceiling_23 : decode cL_ceiling 23 = .ok (.iconst 3, 1) := by decide +kernel
theorem dL_ceiling_24 : decode cL_ceiling 24 = .ok (.ireturn, 1) := by decide +kernel
theorem dL_ceiling_25 : decode cL_ceiling 25 = .ok (.iconst 0, 1) := by decide +kernel
theorem dL_ceiling_26 : decode cL_ceiling 26 = .ok (.ireturn, 1) := by decide +kernel
set_option maxRecDepth 20000 in
theorem ggL_between_X11_between : GoodIn wsL_between wsX11_between := goodIn_ca (goodIn_ca (goodIn_r _ [6, 7, 8, 9, 10, 11, 12, 13, 14, 5, 15, 16, 17, 18, 19, 20, 21, 22, 23, 24, 25, 26, 27, 28, 29, 30, 31, 32, 33, 34, 35, 36, 37, 38, 39, 40, 41, 42, 43, 44, 45, 46, 47, 48, 49, 50, 51, 52, 53, 54, 55, 56, 57, 58, 59, 60, 61, 62, 63, 64, 65, 66, 67, 68, 69, 70, 71, 72, 73, 74, 75] (by decide +kernel) (by decide +kernel)) (goodIn_sub (fun _ h => List.mem_cons_of_mem _ (List.mem_append_left _ (List.mem_append_right _ h))) (by decide +kernel))) (goodIn_sub (fun _ h => List.mem_cons_of_mem _ (List.mem_append_right _ h)) (by decide +kernel))
set_option maxRecDepth 20000 in
theorem gL_between_X11_between : GoodIn wsL_between (wsV RL 114 RX11 yX11_between wsX11_between) := goodIn_app (goodIn_of _ (by decide +kernel)) ggL_between_X11_between
theorem dL_between_0 : decode cL_between 0 = .ok (.aload 4, 2) := by decide +kernel
theorem dL_between_2 : decode cL_between 2 = .ok (.iconst 0, 1) := by decide +kernel
theorem dL_between_3 : decode cL_between 3 = .ok (.aload_n 0, 1) := by decide +kernel
theorem dL_between_4 : decode cL_between 4 = .ok (.iload_n 1, 1) := by decide +kernel
theorem dL_between_5 : decode cL_between 5 = .ok (.iload_n 2, 1) := by decide +kernel
theorem dL_between_6 : decode cL_between 6 = .ok (.iload_n 3, 1) := by decide +kernel
theorem dL_between_7 : decode cL_between 7 = .ok (.invokevirtual 114, 3) := by decide +kernel
theorem dL_between_10 : decode cL_between 10 = .ok (.i2l, 1) := by decide +kernel
theorem dL_between_11 : decode cL_between 11 = .ok (.lastore, 1) := by decide +kernel
theorem dL_between_12 : decode cL_between 12 = .ok (.goto 11, 3) := by decide +kernel
theorem dL_between_15 : decode cL_between 15 = .ok (.astore 5, 2) := by decide +kernel
theorem dL_between_17 : decode cL_between 17 = .ok (.iconst 1, 1) := by decide +kernel
theorem dL_between_18 : decode cL_between 18 = .ok (.ireturn, 1) := by decide +kernel
theorem dL_between_19 : decode cL_between 19 = .ok (.astore 5, 2) := by decide +kernel
theorem dL_between_21 : decode cL_between 21 = .ok (.iconst 2, 1) := by decide +kernel
theorem dL_between_22 : decode cL_between 22 = .ok (.ireturn, 1) := by decide +kernel
theorem dL_between_23 : decode cL_between 23 = .ok (.iconst 0, 1) := by decide +kernel
theorem dL_between_24 : decode cL_between 24 = .ok (.ireturn, 1) := by decide +kernel
set_option maxRecDepth 20000 in
theorem ggL_keys_X11_keys : GoodIn wsL_keys wsX11_keys := goodIn_ca (goodIn_ca (goodIn_r _ [6, 7, 8, 9, 10, 5, 11, 12, 13, 14, 15, 16, 17, 18, 19, 20, 21, 22, 23, 24, 25, 26, 27, 28, 29, 30, 31, 32, 33, 34, 35, 36, 37, 38, 39, 40, 41, 42, 43, 44, 45, 46, 47, 48, 49, 50, 51, 52, 53, 54, 55, 56, 57, 58, 59, 60, 61, 62, 63] (by decide +kernel) (by decide +kernel)) (goodIn_sub (fun _ h => List.mem_cons_of_mem _ (List.mem_append_left _ (List.mem_append_right _ h))) (by decide +kernel))) (goodIn_sub (fun _ h => List.mem_cons_of_mem _ (List.mem_append_right _ h)) (by decide +kernel))
set_option maxRecDepth 20000 in
theorem gL_keys_X11_keys : GoodIn wsL_keys (wsV RL 117 RX11 yX11_keys wsX11_keys) := goodIn_app (goodIn_of _ (by decide +kernel)) ggL_keys_X11_keys
theorem dL_keys_0 : decode cL_keys 0 = .ok (.aload_n 2, 1) := by decide +kernel
theorem dL_keys_1 : decode cL_keys 1 = .ok (.iconst 0, 1) := by decide +kernel
theorem dL_keys_2 : decode cL_keys 2 = .ok (.aload_n 0, 1) := by decide +kernel
theorem dL_keys_3 : decode cL_keys 3 = .ok (.iload_n 1, 1) := by decide +kernel
theorem dL_keys_4 : decode cL_keys 4 = .ok (.invokevirtual 117, 3) := by decide +kernel
theorem dL_keys_7 : decode cL_keys 7 = .ok (.i2l, 1) := by decide +kernel
theorem dL_keys_8 : decode cL_keys 8 = .ok (.lastore, 1) := by decide +kernel
theorem dL_keys_9 : decode cL_keys 9 = .ok (.goto 9, 3) := by decide +kernel
theorem dL_keys_12 : decode cL_keys 12 = .ok (.astore_n 3, 1) := by decide +kernel
theorem dL_keys_13 : decode cL_keys 13 = .ok (.iconst 1, 1) := by decide +kernel
theorem dL_keys_14 : decode cL_keys 14 = .ok (.ireturn, 1) := by decide +kernel
theorem dL_keys_15 : decode cL_keys 15 = .ok (.astore_n 3, 1) := by decide +kernel
theorem dL_keys_16 : decode cL_keys 16 = .ok (.iconst 2, 1) := by decide +kernel
theorem dL_keys_17 : decode cL_keys 17 = .ok (.ireturn, 1) := by decide +kernel
theorem dL_keys_18 : decode cL_keys 18 = .ok (.iconst 0, 1) := by decide +kernel
theorem dL_keys_19 : decode cL_keys 19 = .ok (.ireturn, 1) := by decide +kernel
set_option maxRecDepth 20000 in
theorem ggL_type_X11_type : GoodIn wsL_type wsX11_type := goodIn_ca (goodIn_r _ [6, 7, 8, 9, 10, 11, 5, 12, 13, 14, 15, 16, 17, 18, 19, 20, 21, 22, 23, 24, 25, 26, 27, 28, 29, 30, 31, 32, 33, 34, 35, 36, 37, 38, 39, 40, 41, 42, 43, 44, 45, 46, 47, 48] (by decide +kernel) (by decide +kernel)) (goodIn_sub (fun _ h => List.mem_cons_of_mem _ (List.mem_append_right _ h)) (by decide +kernel))
set_option maxRecDepth 20000 in
theorem gL_type_X11_type : GoodIn wsL_type (wsV RL 120 RX11 yX11_type wsX11_type) := goodIn_app (goodIn_of _ (by decide +kernel)) ggL_type_X11_type
theorem dL_type_0 : decode cL_type 0 = .ok (.aload_n 3, 1) := by decide +kernel
theorem dL_type_1 : decode cL_type 1 = .ok (.iconst 0, 1) := by decide +kernel
theorem dL_type_2 : decode cL_type 2 = .ok (.aload_n 0, 1) := by decide +kernel
theorem dL_type_3 : decode cL_type 3 = .ok (.lload_n 1, 1) := by decide +kernel
theorem dL_type_4 : decode cL_type 4 = .ok (.invokevirtual 120, 3) := by decide +kernel
theorem dL_type_7 : decode cL_type 7 = .ok (.i2l, 1) := by decide +kernel
theorem dL_type_8 : decode cL_type 8 = .ok (.lastore, 1) := by decide +kernel
theorem dL_type_9 : decode cL_type 9 = .ok (.goto 7, 3) := by decide +kernel
theorem dL_type_12 : decode cL_type 12 = .ok (.astore 4, 2) := by decide +kernel
theorem dL_type_14 : decode cL_type 14 = .ok (.iconst 1, 1) := by decide +kernel
theorem dL_type_15 : decode cL_type 15 = .ok (.ireturn, 1) := by decide +kernel
theorem dL_type_16 : decode cL_type 16 = .ok (.iconst 0, 1) := by decide +kernel
theorem dL_type_17 : decode cL_type 17 = .ok (.ireturn, 1) := by decide +kernel
set_option maxRecDepth 20000 in
theorem ggL_example_X11_example : GoodIn wsL_example wsX11_example := goodIn_ca (goodIn_r _ [6, 7, 8, 9, 10, 5, 11, 12, 13, 14, 15, 16, 17, 18, 19, 20, 21, 22, 23, 24, 25, 26, 27, 28, 29, 30, 31, 32, 33, 34, 35, 36, 37, 38, 39, 40, 41, 42, 43, 44, 45, 46, 47, 48, 49, 50, 51, 52, 53, 54, 55, 56, 57, 58, 59, 60, 61, 62, 63, 64, 65, 66, 67, 68, 69, 70, 71, 72, 73, 74, 75, 76, 77, 78, 79, 80, 81, 82, 83, 84, 85, 86, 87, 88, 89, 90, 91, 92, 93, 94, 95, 96, 97, 98, 99, 100, 101, 102, 103, 104, 105] (by decide +kernel) (by decide +kernel)) (goodIn_sub (fun _ h => List.mem_cons_of_mem _ (List.mem_append_right _ h)) (by decide +kernel))
set_option maxRecDepth 20000 in
theorem gL_example_X11_example : GoodIn wsL_example (wsV RL 124 RX11 yX11_example wsX11_example) := goodIn_app (goodIn_of _ (by decide +kernel)) ggL_example_X11_example
theorem dL_example_0 : decode cL_example 0 = .ok (.aload_n 2, 1) := by decide +kernel
theorem dL_example_1 : decode cL_example 1 = .ok (.iconst 0, 1) := by decide +kernel
theorem dL_example_2 : decode cL_example 2 = .ok (.aload_n 0, 1) := by decide +kernel
theorem dL_example_3 : decode cL_example 3 = .ok (.iload_n 1, 1) := by decide +kernel
theorem dL_example_4 : decode cL_example 4 = .ok (.invokevirtual 124, 3) := by decide +kernel
theorem dL_example_7 : decode cL_example 7 = .ok (.i2l, 1) := by decide +kernel
theorem dL_example_8 : decode cL_example 8 = .ok (.lastore, 1) := by decide +kernel
theorem dL_example_9 : decode cL_example 9 = .ok (.goto 6, 3) := by decide +kernel
theorem dL_example_12 : decode cL_example 12 = .ok (.astore_n 3, 1) := by decide +kernel
theorem dL_example_13 : decode cL_example 13 = .ok (.iconst 1, 1) := by decide +kernel
theorem dL_example_14 : decode cL_example 14 = .ok (.ireturn, 1) := by decide +kernel
theorem dL_example_15 : decode cL_example 15 = .ok (.iconst 0, 1) := by decide +kernel
theorem dL_example_16 : decode cL_example 16 = .ok (.ireturn, 1) := by decide +kernel
set_option maxRecDepth 20000 in
theorem ggL_run_X11_run : GoodIn wsL_run wsX11_run := goodIn_ca (goodIn_r _ [6, 7, 8, 9, 10, 11, 12, 13, 14, 5, 15, 16, 17, 18, 19, 20, 21, 22, 23, 24, 25, 26, 27, 28, 29, 30, 31, 32, 33, 34, 35, 36, 37, 38, 39, 40, 41, 42, 43, 44, 45, 46, 47, 48, 49, 50, 51, 52, 53, 54, 55, 56, 57, 58, 59, 60, 61, 62, 63, 64, 65, 66, 67, 68, 69, 70, 71, 72, 73, 74, 75, 76, 77, 78, 79, 80, 81, 82, 83, 84, 85, 86, 87, 88, 89, 90, 91, 92, 93, 94, 95, 96, 97, 98, 99, 100, 101, 102, 103, 104, 105, 106, 107, 108, 109, 110, 111, 112, 113, 114, 115, 116, 117, 118, 119, 120, 121, 122, 123, 124, 125, 126, 127, 128, 129, 130, 131, 132, 133, 134, 135, 136, 137, 138, 139, 140, 141, 142, 143, 144, 145, 146, 147, 148, 149, 150, 151, 152, 153, 154, 155, 156, 157, 158, 159, 160, 161, 162, 163, 164, 165, 166, 167, 168, 169, 170, 171, 172, 173, 174, 175, 176, 177, 178, 179, 180, 181, 182, 183, 184, 185, 186, 187, 188, 189, 190, 191, 192, 193, 194, 195, 196, 197, 198, 199, 200, 201, 202, 203, 204, 205, 206, 207, 208, 209, 210, 211, 212, 213, 214, 215, 216, 217, 218, 219, 220, 221, 222, 223, 224, 225, 226, 227, 228, 229, 230, 231, 232, 233, 234, 235, 236, 237, 238, 239, 240, 241, 242, 243, 244, 245, 246, 247, 248, 249, 250, 251, 252, 253, 254, 255, 256, 257, 258, 259, 260, 261, 262, 263, 264, 265, 266, 267, 268, 269, 270, 271, 272, 273, 274, 275, 276, 277, 278, 279, 280, 281, 282, 283, 284, 285, 286, 287, 288, 289, 290, 291, 292, 293, 294, 295, 296, 297, 298, 299, 300, 301, 302, 303, 304, 305, 306, 307, 308, 309, 310, 311, 312, 313, 314, 315, 316, 317, 318, 319, 320, 321, 322, 323, 324, 325, 326, 327, 328, 329, 330, 331, 332, 333, 334, 335, 336, 337, 338, 339, 340, 341, 342, 343, 344, 345, 346, 347, 348, 349, 350, 351, 352, 353, 354, 355, 356, 357, 358, 359, 360, 361, 362, 363, 364, 365, 366, 367, 368, 369, 370, 371, 372, 373, 374, 375, 376, 377, 378, 379, 380, 381, 382, 383, 384, 385, 386, 387, 388, 389, 390, 391, 392, 393, 394, 395, 396, 397, 398, 399, 400, 401, 402, 403, 404, 405, 406, 407, 408, 409, 410, 411, 412, 413, 414, 415, 416, 417, 418, 419, 420, 421, 422, 423, 424, 425, 426, 427, 428, 429, 430, 431, 432, 433, 434, 435, 436, 437, 438, 439, 440, 441, 442, 443, 444, 445, 446, 447, 448, 449, 450, 451, 452, 453, 454, 455, 456, 457, 458, 459, 460, 461, 462, 463, 464, 465, 466, 467, 468, 469, 470, 471, 472, 473, 474, 475, 476, 477, 478, 479, 480, 481, 482, 483] (by decide +kernel) (by decide +kernel)) (goodIn_sub (fun _ h => List.mem_cons_of_mem _ (List.mem_append_right _ h)) (by decide +kernel))
set_option maxRecDepth 20000 in
theorem gL_run_X11_run : GoodIn wsL_run (wsV RL 127 RX11 yX11_run wsX11_run) := goodIn_app (goodIn_of _ (by decide +kernel)) ggL_run_X11_run
theorem dL_run_0 : decode cL_run 0 = .ok (.aload_n 1, 1) := by decide +kernel
theorem dL_run_1 : decode cL_run 1 = .ok (.iconst 0, 1) := by decide +kernel
theorem dL_run_2 : decode cL_run 2 = .ok (.aload_n 0, 1) := by decide +kernel
theorem dL_run_3 : decode cL_run 3 = .ok (.invokevirtual 127, 3) := by decide +kernel
theorem dL_run_6 : decode cL_run 6 = .ok (.i2l, 1) := by decide +kernel
theorem dL_run_7 : decode cL_run 7 = .ok (.lastore, 1) := by decide +kernel
theorem dL_run_8 : decode cL_run 8 = .ok (.goto 6, 3) := by decide +kernel
theorem dL_run_11 : decode cL_run 11 = .ok (.astore_n 2, 1) := by decide +kernel
theorem dL_run_12 : decode cL_run 12 = .ok (.iconst 1, 1) := by decide +kernel
theorem dL_run_13 : decode cL_run 13 = .ok (.ireturn, 1) := by decide +kernel
theorem dL_run_14 : decode cL_run 14 = .ok (.iconst 0, 1) := by decide +kernel
theorem dL_run_15 : decode cL_run 15 = .ok (.ireturn, 1) := by decide +kernel
set_option maxRecDepth 20000 in
theorem ggL_errors_X11_errors : GoodIn wsL_errors wsX11_errors := goodIn_ca (goodIn_r _ [6, 7, 8, 9, 10, 11, 12, 5, 13, 14, 15, 16, 17, 18, 19, 20, 21, 22, 23, 24, 25, 26, 27, 28, 29, 30, 31, 32, 33, 34, 35, 36, 37, 38, 39, 40, 41, 42, 43, 44, 45, 46, 47, 48, 49, 50, 51, 52, 53, 54, 55, 56, 57, 58, 59, 60, 61, 62, 63, 64, 65, 66, 67, 68, 69, 70, 71, 72, 73, 74, 75, 76, 77, 78, 79, 80, 81, 82, 83, 84, 85, 86, 87, 88, 89, 90, 91, 92, 93, 94, 95, 96, 97, 98, 99, 100, 101, 102, 103, 104, 105, 106, 107, 108, 109, 110, 111, 112, 113, 114, 115, 116, 117, 118, 119, 120, 121, 122, 123, 124, 125, 126, 127, 128, 129, 130, 131, 132, 133, 134, 135, 136, 137, 138, 139, 140, 141, 142, 143, 144, 145, 146, 147, 148, 149, 150, 151, 152, 153, 154, 155, 156, 157, 158, 159, 160, 161, 162, 163, 164, 165, 166, 167, 168, 169, 170, 171, 172, 173, 174, 175, 176, 177, 178, 179, 180, 181, 182, 183, 184, 185, 186, 187, 188, 189, 190, 191, 192, 193, 194, 195, 196, 197, 198, 199, 200, 201, 202, 203, 204, 205, 206, 207, 208, 209, 210, 211, 212, 213, 214, 215, 216, 217, 218, 219, 220, 221, 222, 223, 224, 225, 226, 227, 228, 229, 230, 231, 232, 233, 234, 235, 236, 237, 238, 239, 240, 241, 242, 243, 244, 245, 246, 247, 248, 249, 250, 251, 252, 253, 254, 255, 256, 257, 258, 259, 260, 261, 262, 263, 264, 265, 266, 267, 268, 269, 270, 271, 272, 273, 274, 275, 276, 277, 278, 279, 280, 281, 282, 283, 284, 285, 286, 287, 288, 289, 290, 291, 292, 293, 294, 295, 296, 297, 298, 299, 300, 301, 302, 303, 304, 305, 306, 307, 308, 309, 310, 311, 312, 313, 314, 315, 316, 317, 318, 319, 320, 321, 322, 323, 324, 325, 326, 327, 328, 329, 330, 331, 332, 333, 334, 335, 336, 337, 338, 339, 340, 341, 342, 343, 344, 345, 346, 347, 348, 349, 350, 351, 352, 353, 354, 355, 356, 357, 358, 359, 360, 361, 362, 363, 364, 365, 366, 367, 368, 369, 370, 371, 372, 373, 374, 375, 376, 377, 378, 379, 380, 381, 382, 383, 384, 385, 386, 387, 388, 389] (by decide +kernel) (by decide +kernel)) (goodIn_sub (fun _ h => List.mem_cons_of_mem _ (List.mem_append_right _ h)) (by decide +kernel))
set_option maxRecDepth 20000 in
theorem gL_errors_X11_errors : GoodIn wsL_errors (wsV RL 130 RX11 yX11_errors wsX11_errors) := goodIn_app (goodIn_of _ (by decide +kernel)) ggL_errors_X11_errors
theorem dL_errors_0 : decode cL_errors 0 = .ok (.aload_n 2, 1) := by decide +kernel
theorem dL_errors_1 : decode cL_errors 1 = .ok (.iconst 0, 1) := by decide +kernel
theorem dL_errors_2 : decode cL_errors 2 = .ok (.aload_n 0, 1) := by decide +kernel
theorem dL_errors_3 : decode cL_errors 3 = .ok (.iload_n 1, 1) := by decide +kernel
theorem dL_errors_4 : decode cL_errors 4 = .ok (.invokevirtual 130, 3) := by decide +kernel
theorem dL_errors_7 : decode cL_errors 7 = .ok (.i2l, 1) := by decide +kernel
theorem dL_errors_8 : decode cL_errors 8 = .ok (.lastore, 1) := by decide +kernel
theorem dL_errors_9 : decode cL_errors 9 = .ok (.goto 6, 3) := by decide +kernel
theorem dL_errors_12 : decode cL_errors 12 = .ok (.astore_n 3, 1) := by decide +kernel
theorem dL_errors_13 : decode cL_errors 13 = .ok (.iconst 1, 1) := by decide +kernel
theorem dL_errors_14 : decode cL_errors 14 = .ok (.ireturn, 1) := by decide +kernel
theorem dL_errors_15 : decode cL_errors 15 = .ok (.iconst 0, 1) := by decide +kernel
theorem dL_errors_16 : decode cL_errors 16 = .ok (.ireturn, 1) := by decide +kernel
set_option maxRecDepth 20000 in
theorem ggL_meanKey_X11_meanKey : GoodIn wsL_meanKey wsX11_meanKey := goodIn_ca (goodIn_r _ [6, 7, 8, 9, 10, 5, 11, 12, 13, 14, 15, 16, 17, 18, 19, 20, 21, 22, 23, 24, 25, 26, 27, 28, 29, 30, 31, 32, 33, 34, 35, 36, 37, 38, 39, 40, 41, 42, 43, 44, 45, 46, 47, 48, 49] (by decide +kernel) (by decide +kernel)) (goodIn_sub (fun _ h => List.mem_cons_of_mem _ (List.mem_append_right _ h)) (by decide +kernel))
set_option maxRecDepth 20000 in
theorem gL_meanKey_X11_meanKey : GoodIn wsL_meanKey (wsV RL 133 RX11 yX11_meanKey wsX11_meanKey) := goodIn_app (goodIn_of _ (by decide +kernel)) ggL_meanKey_X11_meanKey
theorem dL_meanKey_0 : decode cL_meanKey 0 = .ok (.aload_n 2, 1) := by decide +kernel
theorem dL_meanKey_1 : decode cL_meanKey 1 = .ok (.iconst 0, 1) := by decide +kernel
theorem dL_meanKey_2 : decode cL_meanKey 2 = .ok (.aload_n 0, 1) := by decide +kernel
theorem dL_meanKey_3 : decode cL_meanKey 3 = .ok (.iload_n 1, 1) := by decide +kernel
theorem dL_meanKey_4 : decode cL_meanKey 4 = .ok (.invokevirtual 133, 3) := by decide +kernel
theorem dL_meanKey_7 : decode cL_meanKey 7 = .ok (.dastore, 1) := by decide +kernel
theorem dL_meanKey_8 : decode cL_meanKey 8 = .ok (.goto 6, 3) := by decide +kernel
theorem dL_meanKey_11 : decode cL_meanKey 11 = .ok (.astore_n 3, 1) := by decide +kernel
theorem dL_meanKey_12 : decode cL_meanKey 12 = .ok (.iconst 1, 1) := by decide +kernel
theorem dL_meanKey_13 : decode cL_meanKey 13 = .ok (.ireturn, 1) := by decide +kernel
theorem dL_meanKey_14 : decode cL_meanKey 14 = .ok (.iconst 0, 1) := by decide +kernel
theorem dL_meanKey_15 : decode cL_meanKey 15 = .ok (.ireturn, 1) := by decide +kernel
set_option maxRecDepth 20000 in
theorem ggL_law_X11_init : GoodIn wsL_law wsX11_init := goodIn_r _ [11, 12, 13, 14, 15, 16, 17, 18, 19, 20, 21, 22, 23, 24, 25, 26, 27, 28, 29, 30, 31, 32, 33, 34, 35, 36, 37, 38, 39, 40, 41, 42, 43, 44, 45, 46, 47, 48, 49, 50, 51, 52, 53, 54, 55, 56, 57, 58, 59, 60, 61, 62, 63, 64, 65, 66, 67, 68, 69, 70, 71, 72, 73, 74, 75, 76, 77, 78, 79, 80, 81, 82, 83, 84, 85, 86, 87, 88, 89, 90, 91, 92, 93, 94, 95, 96, 97, 98, 99, 100, 101, 102, 103, 104, 105, 106, 107, 108, 109, 110, 111, 112, 113, 114, 115, 116, 117, 118, 119, 120, 121, 122, 123, 124, 125, 126, 127, 128, 129, 130, 131, 132, 133, 134, 135, 136, 137, 138, 139, 140, 141, 142, 143, 144, 145, 146, 147, 148, 149, 150, 151, 152, 153, 154, 155, 156, 157, 158, 159, 160, 161, 162, 163, 164, 165, 166, 167, 168, 169, 170, 171, 172, 173, 174, 1565, 1566, 1567, 1538, 1539, 1540, 1541, 1542, 1543, 1544, 1545, 1546, 1547, 1548, 1549, 1550, 1568, 1569, 1570, 1571, 1572, 1573, 1574, 1575, 1576, 1577, 1578, 1579, 1580, 1581, 1582, 1583, 1584, 1585, 1586, 1587, 1588, 1589, 1590, 1591, 1592, 1593, 1594, 1595, 1596, 1597, 1598, 1599, 1600, 1601, 1602, 1603, 1604, 1605, 1606, 1607, 1608, 1609, 1610, 1611, 1612, 1613, 1614, 1615, 1616, 1617, 1618, 1619, 1620, 1621, 1622, 1623, 1624, 1625, 1626, 1627, 1628, 1629, 1630, 1631, 1632, 1633, 1634] (by decide +kernel) (by decide +kernel)
set_option maxRecDepth 20000 in
theorem gL_law_X11_init : GoodIn wsL_law (wsX11_init) := ggL_law_X11_init
set_option maxRecDepth 20000 in
theorem ggL_law_X13_init : GoodIn wsL_law wsX13_init := goodIn_r _ [177, 178, 13, 14, 58, 179, 180, 181, 182, 183, 184, 185, 186, 1551, 1552, 1553, 1554, 1555, 1556, 1557, 1558, 1559, 1560, 1561, 1562, 1563, 1564] (by decide +kernel) (by decide +kernel)
set_option maxRecDepth 20000 in
theorem gL_law_X13_init : GoodIn wsL_law (wsX13_init) := ggL_law_X13_init
set_option maxRecDepth 20000 in
theorem ggL_law_L_put : GoodIn wsL_law wsL_put := goodIn_ca (goodIn_ca (goodIn_ca (goodIn_r _ [190, 191, 192, 193, 194, 2, 195, 18, 196, 197, 198, 199, 200, 201, 20, 202, 203, 204, 205, 206, 207, 208, 209, 210, 211, 212, 213, 214, 215, 216, 17, 217, 61, 59, 60, 218, 219, 220, 23, 221, 66, 65, 1538, 1539, 1540, 1541, 1542, 1543, 1544, 1545, 1546, 1547, 1548, 1549, 1550, 1565, 1566, 1567, 1568, 1569] (by decide +kernel) (by decide +kernel)) (goodIn_sub (fun _ h => List.mem_append_left _ (List.mem_append_left _ (List.mem_append_left _ (List.mem_append_right _ h)))) (by decide +kernel))) (goodIn_sub (fun _ h => List.mem_append_left _ (List.mem_append_left _ (List.mem_append_right _ h))) (by decide +kernel))) (goodIn_sub (fun _ h => List.mem_append_left _ (List.mem_append_right _ h)) (by decide +kernel))
set_option maxRecDepth 20000 in
theorem gL_law_L_put : GoodIn wsL_law (va_wsS RL 141 yL_put wsL_put) := goodIn_app (goodIn_of _ (by decide +kernel)) ggL_law_L_put
set_option maxRecDepth 20000 in
theorem ggL_law_X13_put : GoodIn wsL_law wsX13_put := goodIn_r _ [225, 186, 226, 227, 5, 228, 229, 230, 231, 232, 233, 234, 235, 236, 237, 238, 182, 239, 240, 241, 242, 243, 244, 245, 246, 247, 179, 180, 58, 1551, 1552, 1553, 1554, 1555, 1556, 1557, 1558, 1559, 1560, 1561, 1562, 1563, 1564] (by decide +kernel) (by decide +kernel)
set_option maxRecDepth 20000 in
theorem gL_law_X13_put : GoodIn wsL_law (wsV RL 146 RX13 yX13_put wsX13_put) := goodIn_app (goodIn_of _ (by decide +kernel)) ggL_law_X13_put
set_option maxRecDepth 20000 in
theorem ggL_law_X13_thrown : GoodIn wsL_law wsX13_thrown := goodIn_r _ [251, 243, 1551, 1552, 1553, 1554, 1555, 1556, 1557, 1558, 1559, 1560, 1561, 1562, 1563, 1564] (by decide +kernel) (by decide +kernel)
set_option maxRecDepth 20000 in
theorem gL_law_X13_thrown : GoodIn wsL_law (wsV RL 147 RX13 yX13_thrown wsX13_thrown) := goodIn_app (goodIn_of _ (by decide +kernel)) ggL_law_X13_thrown
set_option maxRecDepth 20000 in
theorem ggL_law_L_fill : GoodIn wsL_law wsL_fill := goodIn_ca (goodIn_ca (goodIn_ca (goodIn_r _ [254, 191, 255, 256, 257, 2, 258, 18, 196, 197, 198, 199, 200, 201, 20, 202, 203, 204, 205, 206, 207, 208, 209, 210, 211, 212, 213, 214, 215, 216, 17, 217, 61, 59, 60, 218, 219, 220, 23, 221, 66, 65, 1538, 1539, 1540, 1541, 1542, 1543, 1544, 1545, 1546, 1547, 1548, 1549, 1550, 1568, 1569, 1565, 1566, 1567] (by decide +kernel) (by decide +kernel)) (goodIn_sub (fun _ h => List.mem_append_left _ (List.mem_append_left _ (List.mem_append_left _ (List.mem_append_right _ h)))) (by decide +kernel))) (goodIn_sub (fun _ h => List.mem_append_left _ (List.mem_append_left _ (List.mem_append_right _ h))) (by decide +kernel))) (goodIn_sub (fun _ h => List.mem_append_left _ (List.mem_append_right _ h)) (by decide +kernel))
set_option maxRecDepth 20000 in
theorem gL_law_L_fill : GoodIn wsL_law (va_wsS RL 150 yL_fill wsL_fill) := goodIn_app (goodIn_of _ (by decide +kernel)) ggL_law_L_fill
set_option maxRecDepth 20000 in
theorem ggL_law_X13_fill : GoodIn wsL_law wsX13_fill := goodIn_r _ [262, 182, 226, 227, 5, 228, 229, 230, 231, 232, 233, 234, 235, 236, 237, 238, 186, 239, 240, 241, 242, 243, 244, 245, 246, 247, 179, 180, 58, 1551, 1552, 1553, 1554, 1555, 1556, 1557, 1558, 1559, 1560, 1561, 1562, 1563, 1564] (by decide +kernel) (by decide +kernel)
set_option maxRecDepth 20000 in
theorem gL_law_X13_fill : GoodIn wsL_law (wsV RL 153 RX13 yX13_fill wsX13_fill) := goodIn_app (goodIn_of _ (by decide +kernel)) ggL_law_X13_fill
set_option maxRecDepth 20000 in
theorem ggL_law_L_scatter : GoodIn wsL_law wsL_scatter := goodIn_ca (goodIn_ca (goodIn_ca (goodIn_r _ [265, 191, 266, 267, 268, 2, 269, 206, 207, 270, 271, 272, 273, 18, 196, 197, 198, 199, 200, 201, 20, 202, 203, 204, 205, 208, 209, 210, 211, 212, 213, 214, 215, 216, 17, 217, 61, 59, 60, 218, 219, 220, 23, 221, 66, 65, 1538, 1539, 1540, 1541, 1542, 1543, 1544, 1545, 1546, 1547, 1548, 1549, 1550, 1568, 1569, 1565, 1566, 1567] (by decide +kernel) (by decide +kernel)) (goodIn_sub (fun _ h => List.mem_append_left _ (List.mem_append_left _ (List.mem_append_right _ h))) (by decide +kernel))) (goodIn_sub (fun _ h => List.mem_append_left _ (List.mem_append_left _ (List.mem_append_left _ (List.mem_append_right _ h)))) (by decide +kernel))) (goodIn_sub (fun _ h => List.mem_append_left _ (List.mem_append_right _ h)) (by decide +kernel))
set_option maxRecDepth 20000 in
theorem gL_law_L_scatter : GoodIn wsL_law (va_wsS RL 154 yL_scatter wsL_scatter) := goodIn_app (goodIn_of _ (by decide +kernel)) ggL_law_L_scatter
set_option maxRecDepth 20000 in
theorem ggL_law_X13_scatter : GoodIn wsL_law wsX13_scatter := goodIn_r _ [277, 278, 279, 280, 281, 182, 226, 227, 5, 228, 229, 230, 231, 235, 236, 237, 238, 186, 239, 240, 241, 242, 243, 244, 245, 246, 247, 179, 180, 58, 1551, 1552, 1553, 1554, 1555, 1556, 1557, 1558, 1559, 1560, 1561, 1562, 1563, 1564] (by decide +kernel) (by decide +kernel)
set_option maxRecDepth 20000 in
theorem gL_law_X13_scatter : GoodIn wsL_law (wsV RL 156 RX13 yX13_scatter wsX13_scatter) := goodIn_app (goodIn_of _ (by decide +kernel)) ggL_law_X13_scatter
set_option maxRecDepth 20000 in
theorem ggL_law_X11_records : GoodIn wsL_law wsX11_records := goodIn_r _ [285, 18, 1538, 1539, 1540, 1541, 1542, 1543, 1544, 1545, 1546, 1547, 1548, 1549, 1550, 1565, 1566, 1567] (by decide +kernel) (by decide +kernel)
set_option maxRecDepth 20000 in
theorem gL_law_X11_records : GoodIn wsL_law (wsV RL 157 RX11 yX11_records wsX11_records) := goodIn_app (goodIn_of _ (by decide +kernel)) ggL_law_X11_records
set_option maxRecDepth 20000 in
theorem ggL_law_X13_records : GoodIn wsL_law wsX13_records := goodIn_r _ [289, 243, 186, 1551, 1552, 1553, 1554, 1555, 1556, 1557, 1558, 1559, 1560, 1561, 1562, 1563, 1564] (by decide +kernel) (by decide +kernel)
set_option maxRecDepth 20000 in
theorem gL_law_X13_records : GoodIn wsL_law (wsV RL 160 RX13 yX13_records wsX13_records) := goodIn_app (goodIn_of _ (by decide +kernel)) ggL_law_X13_records
set_option maxRecDepth 20000 in
theorem ggL_law_L_key : GoodIn wsL_law wsL_key := goodIn_ca (goodIn_r _ [292, 191, 293, 294, 295, 2, 296, 18, 297, 298, 299, 300, 200, 201, 301, 302, 303, 17, 304, 61, 305, 306, 307, 308, 59, 1538, 1539, 1540, 1541, 1542, 1543, 1544, 1545, 1546, 1547, 1548, 1549, 1550, 1565, 1566, 1567] (by decide +kernel) (by decide +kernel)) (goodIn_sub (fun _ h => List.mem_append_left _ (List.mem_append_left _ (List.mem_append_left _ (List.mem_append_right _ h)))) (by decide +kernel))
set_option maxRecDepth 20000 in
theorem gL_law_L_key : GoodIn wsL_law (va_wsS RL 161 yL_key wsL_key) := goodIn_app (goodIn_of _ (by decide +kernel)) ggL_law_L_key
set_option maxRecDepth 20000 in
theorem ggL_law_X13_key : GoodIn wsL_law wsX13_key := goodIn_r _ [312, 186, 179, 229, 230, 5, 231, 239, 240, 241, 242, 243, 1551, 1552, 1553, 1554, 1555, 1556, 1557, 1558, 1559, 1560, 1561, 1562, 1563, 1564] (by decide +kernel) (by decide +kernel)
set_option maxRecDepth 20000 in
theorem gL_law_X13_key : GoodIn wsL_law (wsV RL 164 RX13 yX13_key wsX13_key) := goodIn_app (goodIn_of _ (by decide +kernel)) ggL_law_X13_key
set_option maxRecDepth 20000 in
theorem ggL_law_L_mark : GoodIn wsL_law wsL_mark := goodIn_ca (goodIn_r _ [315, 191, 316, 317, 318, 2, 319, 18, 297, 298, 299, 300, 200, 201, 301, 302, 303, 17, 304, 61, 320, 321, 322, 323, 60, 1538, 1539, 1540, 1541, 1542, 1543, 1544, 1545, 1546, 1547, 1548, 1549, 1550, 1565, 1566, 1567] (by decide +kernel) (by decide +kernel)) (goodIn_sub (fun _ h => List.mem_append_left _ (List.mem_append_left _ (List.mem_append_left _ (List.mem_append_right _ h)))) (by decide +kernel))
set_option maxRecDepth 20000 in
theorem gL_law_L_mark : GoodIn wsL_law (va_wsS RL 165 yL_mark wsL_mark) := goodIn_app (goodIn_of _ (by decide +kernel)) ggL_law_L_mark
set_option maxRecDepth 20000 in
theorem ggL_law_X13_mark : GoodIn wsL_law wsX13_mark := goodIn_r _ [327, 186, 180, 229, 230, 5, 231, 239, 240, 241, 242, 243, 1551, 1552, 1553, 1554, 1555, 1556, 1557, 1558, 1559, 1560, 1561, 1562, 1563, 1564] (by decide +kernel) (by decide +kernel)
set_option maxRecDepth 20000 in
theorem gL_law_X13_mark : GoodIn wsL_law (wsV RL 167 RX13 yX13_mark wsX13_mark) := goodIn_app (goodIn_of _ (by decide +kernel)) ggL_law_X13_mark
set_option maxRecDepth 20000 in
theorem ggL_law_L_length : GoodIn wsL_law wsL_length := goodIn_ca (goodIn_r _ [330, 191, 331, 332, 333, 2, 334, 196, 197, 198, 199, 200, 201, 20, 1568, 1569, 1538, 1539, 1540, 1541, 1542, 1543, 1544, 1545, 1546, 1547, 1548, 1549, 1550] (by decide +kernel) (by decide +kernel)) (goodIn_sub (fun _ h => List.mem_append_left _ (List.mem_append_left _ (List.mem_append_left _ (List.mem_append_right _ h)))) (by decide +kernel))
set_option maxRecDepth 20000 in
theorem gL_law_L_length : GoodIn wsL_law (va_wsS RL 168 yL_length wsL_length) := goodIn_app (goodIn_of _ (by decide +kernel)) ggL_law_L_length
set_option maxRecDepth 20000 in
theorem ggL_law_X13_length : GoodIn wsL_law wsX13_length := goodIn_r _ [338, 182, 226, 227, 5, 228, 229, 230, 231, 239, 240, 241, 242, 243, 1551, 1552, 1553, 1554, 1555, 1556, 1557, 1558, 1559, 1560, 1561, 1562, 1563, 1564] (by decide +kernel) (by decide +kernel)
set_option maxRecDepth 20000 in
theorem gL_law_X13_length : GoodIn wsL_law (wsV RL 170 RX13 yX13_length wsX13_length) := goodIn_app (goodIn_of _ (by decide +kernel)) ggL_law_X13_length
set_option maxRecDepth 20000 in
theorem ggL_law_L_at : GoodIn wsL_law wsL_at := goodIn_ca (goodIn_r _ [341, 191, 342, 343, 344, 2, 345, 200, 201, 196, 197, 198, 199, 20, 346, 347, 348, 23, 349, 66, 65, 1568, 1569, 1538, 1539, 1540, 1541, 1542, 1543, 1544, 1545, 1546, 1547, 1548, 1549, 1550] (by decide +kernel) (by decide +kernel)) (goodIn_sub (fun _ h => List.mem_append_left _ (List.mem_append_left _ (List.mem_append_left _ (List.mem_append_right _ h)))) (by decide +kernel))
set_option maxRecDepth 20000 in
theorem gL_law_L_at : GoodIn wsL_law (va_wsS RL 171 yL_at wsL_at) := goodIn_app (goodIn_of _ (by decide +kernel)) ggL_law_L_at
set_option maxRecDepth 20000 in
theorem ggL_law_X13_at : GoodIn wsL_law wsX13_at := goodIn_r _ [353, 182, 226, 227, 5, 228, 229, 230, 231, 239, 240, 241, 242, 243, 1551, 1552, 1553, 1554, 1555, 1556, 1557, 1558, 1559, 1560, 1561, 1562, 1563, 1564] (by decide +kernel) (by decide +kernel)
set_option maxRecDepth 20000 in
theorem gL_law_X13_at : GoodIn wsL_law (wsV RL 174 RX13 yX13_at wsX13_at) := goodIn_app (goodIn_of _ (by decide +kernel)) ggL_law_X13_at
set_option maxRecDepth 20000 in
theorem ggL_law_L_digest : GoodIn wsL_law wsL_digest := goodIn_ca (goodIn_r _ [356, 191, 357, 358, 359, 2, 360, 196, 197, 198, 199, 200, 201, 20, 346, 347, 348, 23, 349, 66, 65, 1568, 1569, 1538, 1539, 1540, 1541, 1542, 1543, 1544, 1545, 1546, 1547, 1548, 1549, 1550] (by decide +kernel) (by decide +kernel)) (goodIn_sub (fun _ h => List.mem_append_left _ (List.mem_append_left _ (List.mem_append_left _ (List.mem_append_right _ h)))) (by decide +kernel))
set_option maxRecDepth 20000 in
theorem gL_law_L_digest : GoodIn wsL_law (va_wsS RL 175 yL_digest wsL_digest) := goodIn_app (goodIn_of _ (by decide +kernel)) ggL_law_L_digest
set_option maxRecDepth 20000 in
theorem ggL_law_X13_digest : GoodIn wsL_law wsX13_digest := goodIn_r _ [364, 182, 226, 227, 5, 228, 229, 230, 231, 239, 240, 241, 242, 243, 1551, 1552, 1553, 1554, 1555, 1556, 1557, 1558, 1559, 1560, 1561, 1562, 1563, 1564] (by decide +kernel) (by decide +kernel)
set_option maxRecDepth 20000 in
theorem gL_law_X13_digest : GoodIn wsL_law (wsV RL 177 RX13 yX13_digest wsX13_digest) := goodIn_app (goodIn_of _ (by decide +kernel)) ggL_law_X13_digest
set_option maxRecDepth 20000 in
theorem ggL_law_L_isSorted : GoodIn wsL_law wsL_isSorted := goodIn_ca (goodIn_ca (goodIn_r _ [367, 191, 368, 369, 370, 2, 371, 18, 196, 197, 198, 199, 200, 201, 20, 202, 203, 204, 205, 206, 207, 372, 373, 374, 23, 375, 66, 376, 347, 348, 349, 65, 377, 378, 379, 17, 380, 59, 1538, 1539, 1540, 1541, 1542, 1543, 1544, 1545, 1546, 1547, 1548, 1549, 1550, 1568, 1569, 1565, 1566, 1567] (by decide +kernel) (by decide +kernel)) (goodIn_sub (fun _ h => List.mem_append_left _ (List.mem_append_left _ (List.mem_append_left _ (List.mem_append_right _ h)))) (by decide +kernel))) (goodIn_sub (fun _ h => List.mem_append_left _ (List.mem_append_left _ (List.mem_append_right _ h))) (by decide +kernel))
set_option maxRecDepth 20000 in
theorem gL_law_L_isSorted : GoodIn wsL_law (va_wsS RL 178 yL_isSorted wsL_isSorted) := goodIn_app (goodIn_of _ (by decide +kernel)) ggL_law_L_isSorted
set_option maxRecDepth 20000 in
theorem ggL_law_X13_isSorted : GoodIn wsL_law wsX13_isSorted := goodIn_r _ [384, 182, 226, 227, 5, 228, 229, 230, 231, 239, 240, 241, 242, 243, 385, 386, 387, 388, 389, 390, 391, 392, 179, 1551, 1552, 1553, 1554, 1555, 1556, 1557, 1558, 1559, 1560, 1561, 1562, 1563, 1564] (by decide +kernel) (by decide +kernel)
set_option maxRecDepth 20000 in
theorem gL_law_X13_isSorted : GoodIn wsL_law (wsV RL 180 RX13 yX13_isSorted wsX13_isSorted) := goodIn_app (goodIn_of _ (by decide +kernel)) ggL_law_X13_isSorted
set_option maxRecDepth 20000 in
theorem ggL_law_L_clear : GoodIn wsL_law wsL_clear := goodIn_ca (goodIn_r _ [395, 191, 396, 397, 398, 2, 399, 196, 197, 198, 199, 200, 201, 20, 400, 401, 402, 23, 403, 66, 1568, 1569, 1538, 1539, 1540, 1541, 1542, 1543, 1544, 1545, 1546, 1547, 1548, 1549, 1550] (by decide +kernel) (by decide +kernel)) (goodIn_sub (fun _ h => List.mem_append_left _ (List.mem_append_left _ (List.mem_append_left _ (List.mem_append_right _ h)))) (by decide +kernel))
set_option maxRecDepth 20000 in
theorem gL_law_L_clear : GoodIn wsL_law (va_wsS RL 181 yL_clear wsL_clear) := goodIn_app (goodIn_of _ (by decide +kernel)) ggL_law_L_clear
set_option maxRecDepth 20000 in
theorem ggL_law_X13_clear : GoodIn wsL_law wsX13_clear := goodIn_r _ [407, 182, 58, 226, 227, 5, 228, 229, 230, 231, 239, 240, 241, 242, 243, 1551, 1552, 1553, 1554, 1555, 1556, 1557, 1558, 1559, 1560, 1561, 1562, 1563, 1564] (by decide +kernel) (by decide +kernel)
set_option maxRecDepth 20000 in
theorem gL_law_X13_clear : GoodIn wsL_law (wsV RL 183 RX13 yX13_clear wsX13_clear) := goodIn_app (goodIn_of _ (by decide +kernel)) ggL_law_X13_clear
set_option maxRecDepth 20000 in
theorem ggL_law_L_copy : GoodIn wsL_law wsL_copy := goodIn_ca (goodIn_r _ [410, 191, 411, 412, 413, 2, 414, 196, 197, 198, 199, 200, 201, 20, 415, 416, 417, 23, 418, 66, 419, 420, 421, 422, 65, 1568, 1569, 1538, 1539, 1540, 1541, 1542, 1543, 1544, 1545, 1546, 1547, 1548, 1549, 1550] (by decide +kernel) (by decide +kernel)) (goodIn_sub (fun _ h => List.mem_append_left _ (List.mem_append_left _ (List.mem_append_left _ (List.mem_append_right _ h)))) (by decide +kernel))
set_option maxRecDepth 20000 in
theorem gL_law_L_copy : GoodIn wsL_law (va_wsS RL 184 yL_copy wsL_copy) := goodIn_app (goodIn_of _ (by decide +kernel)) ggL_law_L_copy
set_option maxRecDepth 20000 in
theorem ggL_law_X13_copy : GoodIn wsL_law wsX13_copy := goodIn_r _ [426, 182, 226, 227, 5, 228, 229, 230, 231, 239, 240, 241, 242, 243, 1551, 1552, 1553, 1554, 1555, 1556, 1557, 1558, 1559, 1560, 1561, 1562, 1563, 1564] (by decide +kernel) (by decide +kernel)
set_option maxRecDepth 20000 in
theorem gL_law_X13_copy : GoodIn wsL_law (wsV RL 186 RX13 yX13_copy wsX13_copy) := goodIn_app (goodIn_of _ (by decide +kernel)) ggL_law_X13_copy
set_option maxRecDepth 20000 in
theorem ggL_law_L_turn : GoodIn wsL_law wsL_turn := goodIn_ca (goodIn_r _ [429, 191, 430, 431, 432, 2, 433, 196, 197, 198, 199, 200, 201, 20, 434, 435, 436, 23, 437, 66, 419, 420, 421, 422, 65, 1568, 1569, 1538, 1539, 1540, 1541, 1542, 1543, 1544, 1545, 1546, 1547, 1548, 1549, 1550] (by decide +kernel) (by decide +kernel)) (goodIn_sub (fun _ h => List.mem_append_left _ (List.mem_append_left _ (List.mem_append_left _ (List.mem_append_right _ h)))) (by decide +kernel))
set_option maxRecDepth 20000 in
theorem gL_law_L_turn : GoodIn wsL_law (va_wsS RL 187 yL_turn wsL_turn) := goodIn_app (goodIn_of _ (by decide +kernel)) ggL_law_L_turn
set_option maxRecDepth 20000 in
theorem ggL_law_X13_turn : GoodIn wsL_law wsX13_turn := goodIn_r _ [441, 182, 226, 227, 5, 228, 229, 230, 231, 239, 240, 241, 242, 243, 442, 443, 444, 58, 1551, 1552, 1553, 1554, 1555, 1556, 1557, 1558, 1559, 1560, 1561, 1562, 1563, 1564] (by decide +kernel) (by decide +kernel)
set_option maxRecDepth 20000 in
theorem gL_law_X13_turn : GoodIn wsL_law (wsV RL 189 RX13 yX13_turn wsX13_turn) := goodIn_app (goodIn_of _ (by decide +kernel)) ggL_law_X13_turn
set_option maxRecDepth 20000 in
theorem ggL_law_L_setRuns : GoodIn wsL_law wsL_setRuns := goodIn_ca (goodIn_r _ [447, 448, 449, 450, 451, 2, 452, 28, 202, 203, 204, 205, 206, 207, 1538, 1539, 1540, 1541, 1542, 1543, 1544, 1545, 1546, 1547, 1548, 1549, 1550, 1570, 1571, 1572, 1573, 1574] (by decide +kernel) (by decide +kernel)) (goodIn_sub (fun _ h => List.mem_append_left _ (List.mem_append_left _ (List.mem_append_right _ h))) (by decide +kernel))
set_option maxRecDepth 20000 in
theorem gL_law_L_setRuns : GoodIn wsL_law (va_wsS RL 190 yL_setRuns wsL_setRuns) := goodIn_app (goodIn_of _ (by decide +kernel)) ggL_law_L_setRuns
set_option maxRecDepth 20000 in
theorem ggL_law_X13_setRuns : GoodIn wsL_law wsX13_setRuns := goodIn_r _ [456, 184, 229, 230, 5, 231, 239, 240, 241, 242, 243, 1551, 1552, 1553, 1554, 1555, 1556, 1557, 1558, 1559, 1560, 1561, 1562, 1563, 1564] (by decide +kernel) (by decide +kernel)
set_option maxRecDepth 20000 in
theorem gL_law_X13_setRuns : GoodIn wsL_law (wsV RL 192 RX13 yX13_setRuns wsX13_setRuns) := goodIn_app (goodIn_of _ (by decide +kernel)) ggL_law_X13_setRuns
set_option maxRecDepth 20000 in
theorem ggL_law_L_setMerge : GoodIn wsL_law wsL_setMerge := goodIn_ca (goodIn_r _ [459, 448, 460, 461, 462, 2, 463, 28, 202, 203, 204, 205, 206, 207, 1538, 1539, 1540, 1541, 1542, 1543, 1544, 1545, 1546, 1547, 1548, 1549, 1550, 1570, 1571, 1572, 1573, 1574] (by decide +kernel) (by decide +kernel)) (goodIn_sub (fun _ h => List.mem_append_left _ (List.mem_append_left _ (List.mem_append_right _ h))) (by decide +kernel))
set_option maxRecDepth 20000 in
theorem gL_law_L_setMerge : GoodIn wsL_law (va_wsS RL 193 yL_setMerge wsL_setMerge) := goodIn_app (goodIn_of _ (by decide +kernel)) ggL_law_L_setMerge
set_option maxRecDepth 20000 in
theorem ggL_law_X13_setMerge : GoodIn wsL_law wsX13_setMerge := goodIn_r _ [467, 184, 229, 230, 5, 231, 239, 240, 241, 242, 243, 1551, 1552, 1553, 1554, 1555, 1556, 1557, 1558, 1559, 1560, 1561, 1562, 1563, 1564] (by decide +kernel) (by decide +kernel)
set_option maxRecDepth 20000 in
theorem gL_law_X13_setMerge : GoodIn wsL_law (wsV RL 195 RX13 yX13_setMerge wsX13_setMerge) := goodIn_app (goodIn_of _ (by decide +kernel)) ggL_law_X13_setMerge
set_option maxRecDepth 20000 in
theorem ggL_law_L_setting : GoodIn wsL_law wsL_setting := goodIn_ca (goodIn_r _ [470, 448, 471, 472, 473, 2, 474, 206, 207, 28, 1538, 1539, 1540, 1541, 1542, 1543, 1544, 1545, 1546, 1547, 1548, 1549, 1550, 1570, 1571, 1572, 1573, 1574] (by decide +kernel) (by decide +kernel)) (goodIn_sub (fun _ h => List.mem_append_left _ (List.mem_append_left _ (List.mem_append_right _ h))) (by decide +kernel))
set_option maxRecDepth 20000 in
theorem gL_law_L_setting : GoodIn wsL_law (va_wsS RL 196 yL_setting wsL_setting) := goodIn_app (goodIn_of _ (by decide +kernel)) ggL_law_L_setting
set_option maxRecDepth 20000 in
theorem ggL_law_X13_setting : GoodIn wsL_law wsX13_setting := goodIn_r _ [478, 184, 229, 230, 5, 231, 239, 240, 241, 242, 243, 1551, 1552, 1553, 1554, 1555, 1556, 1557, 1558, 1559, 1560, 1561, 1562, 1563, 1564] (by decide +kernel) (by decide +kernel)
set_option maxRecDepth 20000 in
theorem gL_law_X13_setting : GoodIn wsL_law (wsV RL 198 RX13 yX13_setting wsX13_setting) := goodIn_app (goodIn_of _ (by decide +kernel)) ggL_law_X13_setting
set_option maxRecDepth 20000 in
theorem ggL_law_L_runs : GoodIn wsL_law wsL_runs := goodIn_ca (goodIn_r _ [481, 191, 482, 483, 484, 2, 485, 32, 18, 28, 36, 196, 197, 198, 199, 200, 201, 20, 486, 487, 488, 31, 489, 490, 420, 421, 422, 491, 492, 493, 494, 495, 496, 35, 497, 87, 88, 498, 499, 500, 501, 80, 78, 502, 347, 348, 23, 349, 66, 65, 503, 378, 379, 17, 380, 59, 504, 505, 506, 507, 508, 509, 510, 511, 85, 86, 512, 513, 514, 515, 84, 516, 517, 518, 519, 520, 521, 522, 523, 79, 524, 525, 526, 527, 528, 529, 530, 531, 532, 533, 534, 535, 1538, 1539, 1540, 1541, 1542, 1543, 1544, 1545, 1546, 1547, 1548, 1549, 1550, 1578, 1579, 1580, 1581, 1582, 1570, 1571, 1572, 1573, 1574, 1575, 1576, 1577, 1568, 1569, 1565, 1566, 1567] (by decide +kernel) (by decide +kernel)) (goodIn_sub (fun _ h => List.mem_append_left _ (List.mem_append_left _ (List.mem_append_left _ (List.mem_append_right _ h)))) (by decide +kernel))
set_option maxRecDepth 20000 in
theorem gL_law_L_runs : GoodIn wsL_law (va_wsS RL 199 yL_runs wsL_runs) := goodIn_app (goodIn_of _ (by decide +kernel)) ggL_law_L_runs
set_option maxRecDepth 20000 in
theorem ggL_law_X13_runs : GoodIn wsL_law wsX13_runs := goodIn_r _ [539, 226, 227, 5, 228, 229, 230, 231, 239, 240, 241, 242, 243, 540, 541, 542, 543, 182, 184, 544, 545, 546, 547, 548, 549, 550, 551, 552, 553, 554, 555, 420, 421, 422, 556, 557, 558, 559, 560, 561, 562, 563, 564, 565, 566, 567, 568, 569, 570, 571, 13, 14, 572, 573, 574, 575, 576, 577, 578, 579, 580, 581, 582, 583, 584, 585, 586, 587, 588, 589, 590, 591, 592, 593, 594, 595, 596, 597, 598, 599, 600, 601, 602, 603, 604, 605, 606, 607, 608, 492, 493, 609, 610, 611, 612, 613, 614, 615, 616, 617, 618, 619, 620, 621, 622, 623, 624, 625, 626, 627, 628, 629, 630, 631, 632, 633, 634, 635, 636, 637, 638, 639, 640, 641, 642, 643, 644, 645, 646, 647, 648, 649, 650, 651, 652, 653, 654, 655, 656, 657, 658, 659, 660, 661, 662, 663, 664, 665, 666, 667, 668, 389, 390, 391, 392, 179, 669, 670, 671, 672, 673, 674, 675, 676, 677, 678, 679, 680, 58, 681, 682, 683, 684, 685, 686, 687, 1551, 1552, 1553, 1554, 1555, 1556, 1557, 1558, 1559, 1560, 1561, 1562, 1563, 1564, 1635, 1636, 1637, 1638] (by decide +kernel) (by decide +kernel)
set_option maxRecDepth 20000 in
theorem gL_law_X13_runs : GoodIn wsL_law (wsV RL 201 RX13 yX13_runs wsX13_runs) := goodIn_app (goodIn_of _ (by decide +kernel)) ggL_law_X13_runs
set_option maxRecDepth 20000 in
theorem ggL_law_L_runLength : GoodIn wsL_law wsL_runLength := goodIn_ca (goodIn_r _ [690, 191, 691, 692, 693, 2, 694, 36, 695, 696, 697, 698, 200, 201, 32, 18, 28, 196, 197, 198, 199, 20, 486, 487, 488, 31, 489, 490, 420, 421, 422, 491, 492, 493, 494, 495, 496, 35, 497, 87, 88, 498, 499, 500, 501, 80, 78, 502, 347, 348, 23, 349, 66, 65, 503, 378, 379, 17, 380, 59, 504, 505, 506, 507, 508, 509, 510, 511, 85, 86, 512, 513, 514, 515, 84, 516, 517, 518, 519, 520, 521, 522, 523, 79, 524, 525, 526, 527, 528, 529, 530, 531, 532, 533, 534, 535, 699, 700, 701, 702, 1538, 1539, 1540, 1541, 1542, 1543, 1544, 1545, 1546, 1547, 1548, 1549, 1550, 1578, 1579, 1580, 1581, 1582, 1570, 1571, 1572, 1573, 1574, 1575, 1576, 1577, 1568, 1569, 1565, 1566, 1567] (by decide +kernel) (by decide +kernel)) (goodIn_sub (fun _ h => List.mem_append_left _ (List.mem_append_left _ (List.mem_append_left _ (List.mem_append_right _ h)))) (by decide +kernel))
set_option maxRecDepth 20000 in
theorem gL_law_L_runLength : GoodIn wsL_law (va_wsS RL 202 yL_runLength wsL_runLength) := goodIn_app (goodIn_of _ (by decide +kernel)) ggL_law_L_runLength
set_option maxRecDepth 20000 in
theorem ggL_law_X13_runLength : GoodIn wsL_law wsX13_runLength := goodIn_r _ [706, 707, 226, 227, 5, 228, 229, 230, 231, 540, 541, 542, 543, 182, 184, 544, 545, 546, 547, 548, 549, 550, 551, 552, 553, 554, 555, 420, 421, 422, 556, 557, 558, 559, 560, 561, 562, 563, 564, 565, 566, 567, 568, 569, 570, 571, 13, 14, 572, 573, 574, 575, 576, 577, 578, 579, 580, 581, 582, 583, 584, 585, 586, 587, 588, 589, 590, 591, 592, 593, 594, 595, 596, 597, 598, 599, 600, 601, 602, 603, 604, 605, 606, 607, 608, 492, 493, 609, 610, 611, 612, 613, 614, 615, 616, 617, 618, 619, 620, 621, 622, 623, 624, 625, 626, 627, 628, 629, 630, 631, 632, 633, 634, 635, 636, 637, 638, 639, 640, 641, 642, 643, 644, 645, 646, 647, 648, 649, 650, 651, 652, 653, 654, 655, 656, 657, 658, 659, 660, 661, 662, 663, 664, 665, 666, 667, 668, 389, 390, 391, 392, 179, 669, 670, 671, 672, 673, 674, 675, 676, 677, 678, 679, 680, 58, 681, 682, 683, 684, 685, 686, 687, 239, 240, 241, 242, 243, 1551, 1552, 1553, 1554, 1555, 1556, 1557, 1558, 1559, 1560, 1561, 1562, 1563, 1564, 1635, 1636, 1637, 1638] (by decide +kernel) (by decide +kernel)
set_option maxRecDepth 20000 in
theorem gL_law_X13_runLength : GoodIn wsL_law (wsV RL 204 RX13 yX13_runLength wsX13_runLength) := goodIn_app (goodIn_of _ (by decide +kernel)) ggL_law_X13_runLength
set_option maxRecDepth 20000 in
theorem ggL_law_L_runAt : GoodIn wsL_law wsL_runAt := goodIn_ca (goodIn_r _ [710, 191, 711, 712, 713, 2, 714, 200, 201, 36, 695, 696, 697, 698, 32, 18, 28, 196, 197, 198, 199, 20, 486, 487, 488, 31, 489, 490, 420, 421, 422, 491, 492, 493, 494, 495, 496, 35, 497, 87, 88, 498, 499, 500, 501, 80, 78, 502, 347, 348, 23, 349, 66, 65, 503, 378, 379, 17, 380, 59, 504, 505, 506, 507, 508, 509, 510, 511, 85, 86, 512, 513, 514, 515, 84, 516, 517, 518, 519, 520, 521, 522, 523, 79, 524, 525, 526, 527, 528, 529, 530, 531, 532, 533, 534, 535, 699, 700, 701, 702, 715, 716, 717, 718, 719, 720, 721, 1538, 1539, 1540, 1541, 1542, 1543, 1544, 1545, 1546, 1547, 1548, 1549, 1550, 1578, 1579, 1580, 1581, 1582, 1570, 1571, 1572, 1573, 1574, 1575, 1576, 1577, 1568, 1569, 1565, 1566, 1567] (by decide +kernel) (by decide +kernel)) (goodIn_sub (fun _ h => List.mem_append_left _ (List.mem_append_left _ (List.mem_append_left _ (List.mem_append_right _ h)))) (by decide +kernel))
set_option maxRecDepth 20000 in
theorem gL_law_L_runAt : GoodIn wsL_law (va_wsS RL 205 yL_runAt wsL_runAt) := goodIn_app (goodIn_of _ (by decide +kernel)) ggL_law_L_runAt
set_option maxRecDepth 20000 in
theorem ggL_law_X13_runAt : GoodIn wsL_law wsX13_runAt := goodIn_r _ [725, 707, 226, 227, 5, 228, 229, 230, 231, 540, 541, 542, 543, 182, 184, 544, 545, 546, 547, 548, 549, 550, 551, 552, 553, 554, 555, 420, 421, 422, 556, 557, 558, 559, 560, 561, 562, 563, 564, 565, 566, 567, 568, 569, 570, 571, 13, 14, 572, 573, 574, 575, 576, 577, 578, 579, 580, 581, 582, 583, 584, 585, 586, 587, 588, 589, 590, 591, 592, 593, 594, 595, 596, 597, 598, 599, 600, 601, 602, 603, 604, 605, 606, 607, 608, 492, 493, 609, 610, 611, 612, 613, 614, 615, 616, 617, 618, 619, 620, 621, 622, 623, 624, 625, 626, 627, 628, 629, 630, 631, 632, 633, 634, 635, 636, 637, 638, 639, 640, 641, 642, 643, 644, 645, 646, 647, 648, 649, 650, 651, 652, 653, 654, 655, 656, 657, 658, 659, 660, 661, 662, 663, 664, 665, 666, 667, 668, 389, 390, 391, 392, 179, 669, 670, 671, 672, 673, 674, 675, 676, 677, 678, 679, 680, 58, 681, 682, 683, 684, 685, 686, 687, 239, 240, 241, 242, 243, 1551, 1552, 1553, 1554, 1555, 1556, 1557, 1558, 1559, 1560, 1561, 1562, 1563, 1564, 1635, 1636, 1637, 1638] (by decide +kernel) (by decide +kernel)
set_option maxRecDepth 20000 in
theorem gL_law_X13_runAt : GoodIn wsL_law (wsV RL 207 RX13 yX13_runAt wsX13_runAt) := goodIn_app (goodIn_of _ (by decide +kernel)) ggL_law_X13_runAt
set_option maxRecDepth 20000 in
theorem ggL_law_L_plan : GoodIn wsL_law wsL_plan := goodIn_ca (goodIn_ca (goodIn_r _ [728, 191, 729, 730, 731, 2, 732, 32, 18, 28, 36, 40, 196, 197, 198, 199, 200, 201, 20, 202, 203, 204, 205, 206, 207, 486, 487, 488, 31, 489, 490, 420, 421, 422, 491, 492, 493, 494, 495, 496, 35, 497, 87, 88, 498, 499, 500, 501, 80, 78, 502, 347, 348, 23, 349, 66, 65, 503, 378, 379, 17, 380, 59, 504, 505, 506, 507, 508, 509, 510, 511, 85, 86, 512, 513, 514, 515, 84, 516, 517, 518, 519, 520, 521, 522, 523, 79, 524, 525, 526, 527, 528, 529, 530, 531, 532, 533, 534, 535, 733, 734, 735, 39, 736, 95, 100, 101, 102, 98, 737, 738, 739, 94, 740, 108, 741, 742, 109, 111, 110, 107, 743, 744, 745, 746, 747, 748, 749, 750, 751, 96, 752, 700, 701, 702, 753, 754, 755, 756, 99, 97, 757, 758, 759, 760, 106, 761, 762, 763, 764, 765, 766, 767, 768, 769, 770, 771, 772, 773, 774, 775, 776, 777, 778, 779, 780, 781, 782, 783, 784, 785, 786, 787, 788, 789, 790, 791, 792, 793, 794, 795, 796, 1538, 1539, 1540, 1541, 1542, 1543, 1544, 1545, 1546, 1547, 1548, 1549, 1550, 1583, 1584, 1585, 1586, 1587, 1588, 1589, 1590, 1627, 1628, 1629, 1630, 1631, 1632, 1570, 1571, 1572, 1573, 1574, 1578, 1579, 1580, 1581, 1582, 1575, 1576, 1577, 1568, 1569, 1565, 1566, 1567] (by decide +kernel) (by decide +kernel)) (goodIn_sub (fun _ h => List.mem_append_left _ (List.mem_append_left _ (List.mem_append_left _ (List.mem_append_right _ h)))) (by decide +kernel))) (goodIn_sub (fun _ h => List.mem_append_left _ (List.mem_append_left _ (List.mem_append_right _ h))) (by decide +kernel))
set_option maxRecDepth 20000 in
theorem gL_law_L_plan : GoodIn wsL_law (va_wsS RL 208 yL_plan wsL_plan) := goodIn_app (goodIn_of _ (by decide +kernel)) ggL_law_L_plan
set_option maxRecDepth 20000 in
theorem ggL_law_X13_plan : GoodIn wsL_law wsX13_plan := goodIn_r _ [800, 801, 802, 803, 182, 184, 58, 226, 227, 5, 228, 229, 230, 231, 239, 240, 241, 242, 243, 804, 805, 806, 807, 808, 13, 14, 809, 810, 549, 550, 811, 812, 813, 814, 815, 558, 559, 560, 561, 562, 563, 564, 565, 566, 567, 568, 569, 570, 571, 545, 546, 547, 548, 551, 552, 553, 554, 555, 420, 421, 422, 556, 557, 572, 573, 574, 575, 576, 577, 578, 579, 580, 581, 582, 583, 584, 585, 586, 587, 588, 589, 590, 591, 592, 593, 594, 595, 596, 597, 598, 599, 600, 601, 602, 603, 604, 605, 606, 607, 608, 492, 493, 609, 610, 611, 612, 613, 614, 615, 616, 617, 618, 619, 620, 621, 622, 623, 624, 625, 626, 627, 628, 629, 630, 631, 632, 633, 634, 635, 636, 637, 638, 639, 640, 641, 642, 643, 644, 645, 646, 647, 648, 649, 650, 651, 652, 653, 654, 655, 656, 657, 658, 659, 660, 661, 662, 663, 664, 665, 666, 667, 668, 389, 390, 391, 392, 179, 669, 670, 671, 672, 673, 674, 675, 676, 677, 678, 679, 680, 681, 682, 683, 684, 685, 686, 687, 816, 817, 818, 819, 820, 821, 822, 823, 824, 825, 826, 827, 828, 829, 830, 831, 832, 833, 834, 835, 836, 837, 838, 839, 840, 841, 842, 843, 844, 845, 846, 847, 848, 849, 850, 851, 852, 853, 854, 855, 856, 857, 858, 859, 860, 861, 862, 863, 864, 865, 866, 867, 868, 869, 1639, 1640, 1641, 1642, 1643, 1644, 1645, 1646, 1647, 1648, 1649, 1650, 1551, 1552, 1553, 1554, 1555, 1556, 1557, 1558, 1559, 1560, 1561, 1562, 1563, 1564, 1635, 1636, 1637, 1638] (by decide +kernel) (by decide +kernel)
set_option maxRecDepth 20000 in
theorem gL_law_X13_plan : GoodIn wsL_law (wsV RL 210 RX13 yX13_plan wsX13_plan) := goodIn_app (goodIn_of _ (by decide +kernel)) ggL_law_X13_plan
set_option maxRecDepth 20000 in
theorem ggL_law_L_leastMoves : GoodIn wsL_law wsL_leastMoves := goodIn_ca (goodIn_r _ [872, 191, 873, 874, 875, 2, 876, 32, 18, 28, 36, 40, 196, 197, 198, 199, 200, 201, 20, 486, 487, 488, 31, 489, 490, 420, 421, 422, 491, 492, 493, 494, 495, 496, 35, 497, 87, 88, 498, 499, 500, 501, 80, 78, 502, 347, 348, 23, 349, 66, 65, 503, 378, 379, 17, 380, 59, 504, 505, 506, 507, 508, 509, 510, 511, 85, 86, 512, 513, 514, 515, 84, 516, 517, 518, 519, 520, 521, 522, 523, 79, 524, 525, 526, 527, 528, 529, 530, 531, 532, 533, 534, 535, 877, 878, 879, 39, 880, 98, 96, 747, 748, 749, 750, 751, 752, 700, 701, 702, 881, 882, 883, 884, 1538, 1539, 1540, 1541, 1542, 1543, 1544, 1545, 1546, 1547, 1548, 1549, 1550, 1570, 1571, 1572, 1573, 1574, 1578, 1579, 1580, 1581, 1582, 1575, 1576, 1577, 1568, 1569, 1565, 1566, 1567, 1583, 1584, 1585, 1586, 1587, 1588, 1589, 1590] (by decide +kernel) (by decide +kernel)) (goodIn_sub (fun _ h => List.mem_append_left _ (List.mem_append_left _ (List.mem_append_left _ (List.mem_append_right _ h)))) (by decide +kernel))
set_option maxRecDepth 20000 in
theorem gL_law_L_leastMoves : GoodIn wsL_law (va_wsS RL 211 yL_leastMoves wsL_leastMoves) := goodIn_app (goodIn_of _ (by decide +kernel)) ggL_law_L_leastMoves
set_option maxRecDepth 20000 in
theorem ggL_law_X13_leastMoves : GoodIn wsL_law wsX13_leastMoves := goodIn_r _ [888, 58, 184, 801, 802, 803, 182, 226, 227, 5, 228, 229, 230, 231, 239, 240, 241, 242, 243, 804, 805, 806, 807, 808, 13, 14, 809, 810, 549, 550, 811, 812, 813, 814, 815, 558, 559, 560, 561, 562, 563, 564, 565, 566, 567, 568, 569, 570, 571, 545, 546, 547, 548, 551, 552, 553, 554, 555, 420, 421, 422, 556, 557, 572, 573, 574, 575, 576, 577, 578, 579, 580, 581, 582, 583, 584, 585, 586, 587, 588, 589, 590, 591, 592, 593, 594, 595, 596, 597, 598, 599, 600, 601, 602, 603, 604, 605, 606, 607, 608, 492, 493, 609, 610, 611, 612, 613, 614, 615, 616, 617, 618, 619, 620, 621, 622, 623, 624, 625, 626, 627, 628, 629, 630, 631, 632, 633, 634, 635, 636, 637, 638, 639, 640, 641, 642, 643, 644, 645, 646, 647, 648, 649, 650, 651, 652, 653, 654, 655, 656, 657, 658, 659, 660, 661, 662, 663, 664, 665, 666, 667, 668, 389, 390, 391, 392, 179, 669, 670, 671, 672, 673, 674, 675, 676, 677, 678, 679, 680, 681, 682, 683, 684, 685, 686, 687, 816, 817, 818, 819, 820, 821, 822, 823, 824, 825, 826, 827, 828, 829, 830, 831, 832, 833, 834, 835, 836, 837, 838, 839, 840, 841, 842, 843, 844, 845, 846, 847, 848, 849, 850, 851, 852, 853, 854, 855, 856, 857, 858, 859, 860, 861, 862, 863, 864, 865, 866, 867, 868, 869, 1551, 1552, 1553, 1554, 1555, 1556, 1557, 1558, 1559, 1560, 1561, 1562, 1563, 1564, 1639, 1640, 1641, 1642, 1643, 1644, 1645, 1646, 1647, 1648, 1649, 1650, 1635, 1636, 1637, 1638] (by decide +kernel) (by decide +kernel)
set_option maxRecDepth 20000 in
theorem gL_law_X13_leastMoves : GoodIn wsL_law (wsV RL 213 RX13 yX13_leastMoves wsX13_leastMoves) := goodIn_app (goodIn_of _ (by decide +kernel)) ggL_law_X13_leastMoves
set_option maxRecDepth 20000 in
theorem ggL_law_L_begin : GoodIn wsL_law wsL_begin := goodIn_ca (goodIn_r _ [891, 191, 892, 893, 894, 2, 895, 44, 18, 28, 54, 196, 197, 198, 199, 200, 201, 20, 896, 897, 898, 43, 899, 116, 123, 118, 124, 126, 127, 128, 129, 130, 131, 132, 900, 487, 488, 31, 489, 490, 420, 421, 422, 491, 492, 493, 494, 495, 496, 35, 497, 87, 88, 498, 499, 500, 501, 80, 78, 502, 347, 348, 23, 349, 66, 65, 503, 378, 379, 17, 380, 59, 504, 505, 506, 507, 508, 509, 510, 511, 85, 86, 512, 513, 514, 515, 84, 516, 517, 518, 519, 520, 521, 522, 523, 79, 524, 525, 526, 527, 528, 529, 530, 531, 532, 533, 534, 535, 901, 738, 739, 94, 740, 108, 741, 742, 109, 111, 110, 107, 743, 744, 745, 746, 902, 903, 904, 905, 906, 907, 908, 909, 910, 911, 912, 401, 402, 403, 913, 700, 701, 702, 914, 716, 717, 718, 915, 720, 721, 916, 219, 220, 221, 1538, 1539, 1540, 1541, 1542, 1543, 1544, 1545, 1546, 1547, 1548, 1549, 1550, 1591, 1592, 1593, 1594, 1595, 1596, 1597, 1598, 1599, 1600, 1601, 1602, 1603, 1604, 1605, 1578, 1579, 1580, 1581, 1582, 1568, 1569, 1570, 1571, 1572, 1573, 1574, 1575, 1576, 1577, 1565, 1566, 1567, 1627, 1628, 1629, 1630, 1631, 1632] (by decide +kernel) (by decide +kernel)) (goodIn_sub (fun _ h => List.mem_append_left _ (List.mem_append_left _ (List.mem_append_left _ (List.mem_append_right _ h)))) (by decide +kernel))
set_option maxRecDepth 20000 in
theorem gL_law_L_begin : GoodIn wsL_law (va_wsS RL 214 yL_begin wsL_begin) := goodIn_app (goodIn_of _ (by decide +kernel)) ggL_law_L_begin
set_option maxRecDepth 20000 in
theorem ggL_law_X13_begin : GoodIn wsL_law wsX13_begin := goodIn_r _ [920, 801, 802, 803, 182, 184, 921, 226, 227, 5, 228, 229, 230, 231, 239, 240, 241, 242, 243, 540, 541, 542, 543, 544, 545, 546, 547, 548, 549, 550, 551, 552, 553, 554, 555, 420, 421, 422, 556, 557, 558, 559, 560, 561, 562, 563, 564, 565, 566, 567, 568, 569, 570, 571, 13, 14, 572, 573, 574, 575, 576, 577, 578, 579, 580, 581, 582, 583, 584, 585, 586, 587, 588, 589, 590, 591, 592, 593, 594, 595, 596, 597, 598, 599, 600, 601, 602, 603, 604, 605, 606, 607, 608, 492, 493, 609, 610, 611, 612, 613, 614, 615, 616, 617, 618, 619, 620, 621, 622, 623, 624, 625, 626, 627, 628, 629, 630, 631, 632, 633, 634, 635, 636, 637, 638, 639, 640, 641, 642, 643, 644, 645, 646, 647, 648, 649, 650, 651, 652, 653, 654, 655, 656, 657, 658, 659, 660, 661, 662, 663, 664, 665, 666, 667, 668, 389, 390, 391, 392, 179, 669, 670, 671, 672, 673, 674, 675, 676, 677, 678, 679, 680, 58, 681, 682, 683, 684, 685, 686, 687, 804, 805, 806, 807, 808, 809, 810, 811, 812, 813, 814, 815, 816, 817, 818, 819, 820, 821, 822, 823, 824, 825, 826, 827, 828, 922, 923, 924, 925, 926, 834, 835, 836, 837, 838, 839, 840, 841, 927, 928, 929, 930, 1639, 1640, 1641, 1642, 1643, 1644, 1645, 1646, 1647, 1648, 1649, 1650, 1551, 1552, 1553, 1554, 1555, 1556, 1557, 1558, 1559, 1560, 1561, 1562, 1563, 1564, 1635, 1636, 1637, 1638] (by decide +kernel) (by decide +kernel)
set_option maxRecDepth 20000 in
theorem gL_law_X13_begin : GoodIn wsL_law (wsV RL 216 RX13 yX13_begin wsX13_begin) := goodIn_app (goodIn_of _ (by decide +kernel)) ggL_law_X13_begin
set_option maxRecDepth 20000 in
theorem ggL_law_L_work : GoodIn wsL_law wsL_work := goodIn_ca (goodIn_ca (goodIn_ca (goodIn_r _ [933, 448, 934, 935, 936, 2, 937, 44, 202, 203, 204, 205, 206, 207, 938, 939, 940, 941, 212, 213, 54, 904, 905, 906, 43, 907, 123, 942, 943, 944, 945, 124, 118, 128, 129, 130, 946, 758, 759, 94, 760, 106, 741, 420, 421, 422, 108, 761, 762, 763, 764, 109, 110, 765, 766, 767, 768, 769, 770, 771, 772, 107, 947, 948, 949, 950, 121, 119, 120, 951, 782, 783, 784, 913, 700, 701, 35, 702, 87, 86, 902, 509, 510, 511, 85, 88, 952, 953, 954, 955, 914, 716, 717, 718, 84, 956, 513, 514, 515, 957, 958, 959, 960, 125, 127, 903, 495, 496, 497, 961, 774, 775, 776, 962, 963, 964, 965, 966, 967, 968, 969, 970, 971, 972, 973, 974, 794, 795, 796, 196, 197, 198, 199, 200, 201, 20, 908, 909, 910, 911, 912, 401, 402, 23, 403, 66, 915, 720, 17, 721, 916, 219, 220, 221, 65, 1538, 1539, 1540, 1541, 1542, 1543, 1544, 1545, 1546, 1547, 1548, 1549, 1550, 1591, 1592, 1593, 1594, 1595, 1596, 1597, 1598, 1599, 1600, 1601, 1602, 1603, 1604, 1605, 1578, 1579, 1580, 1581, 1582, 1627, 1628, 1629, 1630, 1631, 1632, 1568, 1569] (by decide +kernel) (by decide +kernel)) (goodIn_sub (fun _ h => List.mem_append_left _ (List.mem_append_left _ (List.mem_append_right _ h))) (by decide +kernel))) (goodIn_sub (fun _ h => List.mem_append_left _ (List.mem_append_right _ h)) (by decide +kernel))) (goodIn_sub (fun _ h => List.mem_append_left _ (List.mem_append_left _ (List.mem_append_left _ (List.mem_append_right _ h)))) (by decide +kernel))
set_option maxRecDepth 20000 in
theorem gL_law_L_work : GoodIn wsL_law (va_wsS RL 217 yL_work wsL_work) := goodIn_app (goodIn_of _ (by decide +kernel)) ggL_law_L_work
set_option maxRecDepth 20000 in
theorem ggL_law_X13_work : GoodIn wsL_law wsX13_work := goodIn_r _ [978, 921, 229, 230, 5, 231, 926, 834, 835, 803, 836, 837, 838, 839, 840, 811, 841, 825, 646, 647, 550, 648, 595, 827, 650, 651, 652, 653, 654, 655, 656, 657, 658, 659, 660, 661, 662, 663, 664, 561, 239, 240, 241, 242, 243, 979, 843, 844, 845, 821, 58, 807, 809, 812, 846, 814, 847, 810, 549, 848, 849, 850, 851, 852, 853, 420, 421, 422, 854, 492, 493, 815, 558, 559, 560, 562, 563, 564, 565, 566, 567, 568, 569, 570, 571, 13, 14, 828, 590, 591, 592, 593, 594, 596, 597, 598, 599, 600, 601, 602, 603, 604, 605, 606, 607, 608, 609, 610, 611, 612, 613, 614, 615, 616, 617, 618, 619, 620, 621, 622, 623, 624, 625, 626, 627, 628, 629, 630, 631, 632, 633, 634, 635, 636, 855, 856, 857, 685, 686, 687, 389, 390, 391, 392, 179, 858, 859, 860, 861, 862, 863, 864, 865, 866, 867, 868, 869, 922, 923, 924, 925, 182, 927, 928, 929, 930, 826, 638, 639, 640, 1551, 1552, 1553, 1554, 1555, 1556, 1557, 1558, 1559, 1560, 1561, 1562, 1563, 1564, 1639, 1640, 1641, 1642, 1643, 1644, 1645, 1646, 1647, 1648, 1649, 1650, 1635, 1636, 1637] (by decide +kernel) (by decide +kernel)
set_option maxRecDepth 20000 in
theorem gL_law_X13_work : GoodIn wsL_law (wsV RL 219 RX13 yX13_work wsX13_work) := goodIn_app (goodIn_of _ (by decide +kernel)) ggL_law_X13_work
set_option maxRecDepth 20000 in
theorem ggL_law_L_tear : GoodIn wsL_law wsL_tear := goodIn_ca (goodIn_r _ [982, 983, 984, 985, 986, 2, 987, 44, 938, 939, 940, 941, 212, 213, 54, 904, 905, 906, 43, 907, 123, 988, 989, 990, 991, 130, 131, 124, 132, 903, 495, 496, 35, 497, 87, 88, 1538, 1539, 1540, 1541, 1542, 1543, 1544, 1545, 1546, 1547, 1548, 1549, 1550, 1591, 1592, 1593, 1594, 1595, 1596, 1597, 1598, 1599, 1600, 1601, 1602, 1603, 1604, 1605, 1578, 1579, 1580, 1581, 1582] (by decide +kernel) (by decide +kernel)) (goodIn_sub (fun _ h => List.mem_append_left _ (List.mem_append_right _ h)) (by decide +kernel))
set_option maxRecDepth 20000 in
theorem gL_law_L_tear : GoodIn wsL_law (va_wsS RL 220 yL_tear wsL_tear) := goodIn_app (goodIn_of _ (by decide +kernel)) ggL_law_L_tear
set_option maxRecDepth 20000 in
theorem ggL_law_X13_tear : GoodIn wsL_law wsX13_tear := goodIn_r _ [995, 921, 926, 834, 835, 803, 836, 837, 838, 839, 840, 811, 841, 825, 646, 647, 550, 648, 595, 827, 650, 651, 652, 653, 654, 655, 656, 657, 658, 659, 660, 661, 662, 663, 664, 561, 239, 240, 241, 5, 242, 243, 996, 997, 998, 999, 847, 1000, 810, 549, 812, 1001, 815, 558, 559, 560, 562, 563, 564, 565, 566, 567, 568, 569, 570, 571, 13, 14, 1551, 1552, 1553, 1554, 1555, 1556, 1557, 1558, 1559, 1560, 1561, 1562, 1563, 1564, 1639, 1640, 1641, 1642, 1643, 1644, 1645, 1646, 1647, 1648, 1649, 1650, 1635, 1636, 1637] (by decide +kernel) (by decide +kernel)
set_option maxRecDepth 20000 in
theorem gL_law_X13_tear : GoodIn wsL_law (wsV RL 223 RX13 yX13_tear wsX13_tear) := goodIn_app (goodIn_of _ (by decide +kernel)) ggL_law_X13_tear
set_option maxRecDepth 20000 in
theorem ggL_law_L_job : GoodIn wsL_law wsL_job := goodIn_ca (goodIn_ca (goodIn_r _ [1004, 448, 1005, 1006, 1007, 2, 1008, 212, 213, 54, 44, 202, 203, 204, 205, 206, 207, 904, 905, 906, 43, 907, 123, 1009, 1010, 1011, 1012, 124, 118, 951, 782, 783, 94, 784, 106, 1538, 1539, 1540, 1541, 1542, 1543, 1544, 1545, 1546, 1547, 1548, 1549, 1550, 1591, 1592, 1593, 1594, 1595, 1596, 1597, 1598, 1599, 1600, 1601, 1602, 1603, 1604, 1605, 1578, 1579, 1580, 1581, 1582, 1627, 1628, 1629, 1630, 1631, 1632] (by decide +kernel) (by decide +kernel)) (goodIn_sub (fun _ h => List.mem_append_left _ (List.mem_append_right _ h)) (by decide +kernel))) (goodIn_sub (fun _ h => List.mem_append_left _ (List.mem_append_left _ (List.mem_append_right _ h))) (by decide +kernel))
set_option maxRecDepth 20000 in
theorem gL_law_L_job : GoodIn wsL_law (va_wsS RL 224 yL_job wsL_job) := goodIn_app (goodIn_of _ (by decide +kernel)) ggL_law_L_job
set_option maxRecDepth 20000 in
theorem ggL_law_X13_job : GoodIn wsL_law wsX13_job := goodIn_r _ [1016, 921, 58, 229, 230, 5, 231, 239, 240, 241, 242, 243, 926, 834, 835, 803, 836, 837, 838, 839, 840, 811, 841, 825, 646, 647, 550, 648, 595, 827, 650, 651, 652, 653, 654, 655, 656, 657, 658, 659, 660, 661, 662, 663, 664, 561, 1017, 1018, 1019, 1020, 809, 812, 853, 420, 421, 422, 1551, 1552, 1553, 1554, 1555, 1556, 1557, 1558, 1559, 1560, 1561, 1562, 1563, 1564, 1639, 1640, 1641, 1642, 1643, 1644, 1645, 1646, 1647, 1648, 1649, 1650, 1635, 1636, 1637] (by decide +kernel) (by decide +kernel)
set_option maxRecDepth 20000 in
theorem gL_law_X13_job : GoodIn wsL_law (wsV RL 226 RX13 yX13_job wsX13_job) := goodIn_app (goodIn_of _ (by decide +kernel)) ggL_law_X13_job
set_option maxRecDepth 20000 in
theorem ggL_law_L_sort : GoodIn wsL_law wsL_sort := goodIn_ca (goodIn_r _ [1023, 191, 1024, 1025, 1026, 2, 1027, 45, 18, 28, 196, 197, 198, 199, 200, 201, 20, 1028, 1029, 1030, 43, 1031, 1032, 897, 898, 899, 116, 123, 118, 124, 126, 127, 128, 129, 130, 131, 132, 900, 487, 488, 31, 489, 490, 420, 421, 422, 491, 492, 493, 494, 495, 496, 35, 497, 87, 88, 498, 499, 500, 501, 80, 78, 502, 347, 348, 23, 349, 66, 65, 503, 378, 379, 17, 380, 59, 504, 505, 506, 507, 508, 509, 510, 511, 85, 86, 512, 513, 514, 515, 84, 516, 517, 518, 519, 520, 521, 522, 523, 79, 524, 525, 526, 527, 528, 529, 530, 531, 532, 533, 534, 535, 901, 738, 739, 94, 740, 108, 741, 742, 109, 111, 110, 107, 743, 744, 745, 746, 902, 903, 1033, 905, 906, 907, 1034, 943, 944, 945, 946, 758, 759, 760, 106, 761, 762, 763, 764, 765, 766, 767, 768, 769, 770, 771, 772, 947, 948, 949, 950, 121, 119, 120, 951, 782, 783, 784, 913, 700, 701, 702, 952, 953, 954, 955, 914, 716, 717, 718, 956, 957, 958, 959, 960, 125, 961, 774, 775, 776, 962, 963, 964, 965, 966, 967, 968, 969, 970, 971, 972, 973, 974, 794, 795, 796, 1035, 909, 910, 911, 912, 401, 402, 403, 915, 720, 721, 916, 219, 220, 221, 1538, 1539, 1540, 1541, 1542, 1543, 1544, 1545, 1546, 1547, 1548, 1549, 1550, 1591, 1592, 1593, 1594, 1595, 1596, 1597, 1598, 1599, 1600, 1601, 1602, 1603, 1604, 1605, 1578, 1579, 1580, 1581, 1582, 1568, 1569, 1570, 1571, 1572, 1573, 1574, 1575, 1576, 1577, 1565, 1566, 1567, 1627, 1628, 1629, 1630, 1631, 1632] (by decide +kernel) (by decide +kernel)) (goodIn_sub (fun _ h => List.mem_append_left _ (List.mem_append_left _ (List.mem_append_left _ (List.mem_append_right _ h)))) (by decide +kernel))
set_option maxRecDepth 20000 in
theorem gL_law_L_sort : GoodIn wsL_law (va_wsS RL 227 yL_sort wsL_sort) := goodIn_app (goodIn_of _ (by decide +kernel)) ggL_law_L_sort
set_option maxRecDepth 20000 in
theorem ggL_law_X13_sort : GoodIn wsL_law wsX13_sort := goodIn_r _ [1039, 801, 802, 803, 182, 184, 226, 227, 5, 228, 229, 230, 231, 239, 240, 241, 242, 243, 804, 805, 806, 807, 808, 13, 14, 58, 809, 810, 549, 550, 811, 812, 813, 814, 815, 558, 559, 560, 561, 562, 563, 564, 565, 566, 567, 568, 569, 570, 571, 545, 546, 547, 548, 551, 552, 553, 554, 555, 420, 421, 422, 556, 557, 572, 573, 574, 575, 576, 577, 578, 579, 580, 581, 582, 583, 584, 585, 586, 587, 588, 589, 590, 591, 592, 593, 594, 595, 596, 597, 598, 599, 600, 601, 602, 603, 604, 605, 606, 607, 608, 492, 493, 609, 610, 611, 612, 613, 614, 615, 616, 617, 618, 619, 620, 621, 622, 623, 624, 625, 626, 627, 628, 629, 630, 631, 632, 633, 634, 635, 636, 637, 638, 639, 640, 641, 642, 643, 644, 645, 646, 647, 648, 649, 650, 651, 652, 653, 654, 655, 656, 657, 658, 659, 660, 661, 662, 663, 664, 665, 666, 667, 668, 389, 390, 391, 392, 179, 669, 670, 671, 672, 673, 674, 675, 676, 677, 678, 679, 680, 681, 682, 683, 684, 685, 686, 687, 816, 817, 818, 819, 820, 821, 822, 823, 824, 825, 826, 827, 828, 829, 830, 831, 832, 833, 834, 835, 836, 837, 838, 839, 840, 841, 842, 843, 844, 845, 846, 847, 848, 849, 850, 851, 852, 853, 854, 855, 856, 857, 858, 859, 860, 861, 862, 863, 864, 865, 866, 867, 868, 869, 927, 928, 929, 930, 1639, 1640, 1641, 1642, 1643, 1644, 1645, 1646, 1647, 1648, 1649, 1650, 1551, 1552, 1553, 1554, 1555, 1556, 1557, 1558, 1559, 1560, 1561, 1562, 1563, 1564, 1635, 1636, 1637, 1638] (by decide +kernel) (by decide +kernel)
set_option maxRecDepth 20000 in
theorem gL_law_X13_sort : GoodIn wsL_law (wsV RL 229 RX13 yX13_sort wsX13_sort) := goodIn_app (goodIn_of _ (by decide +kernel)) ggL_law_X13_sort
set_option maxRecDepth 20000 in
theorem ggL_law_L_combine : GoodIn wsL_law wsL_combine := goodIn_ca (goodIn_ca (goodIn_ca (goodIn_r _ [1042, 191, 1043, 1044, 1045, 2, 1046, 212, 213, 196, 197, 198, 199, 200, 201, 20, 202, 203, 204, 205, 206, 207, 1047, 1048, 1049, 1050, 18, 24, 372, 373, 374, 23, 375, 66, 376, 347, 348, 349, 65, 377, 378, 379, 17, 380, 59, 400, 401, 402, 403, 1051, 1052, 1053, 1054, 1055, 219, 220, 221, 1056, 1057, 1058, 1059, 1060, 1061, 1062, 1063, 1064, 306, 307, 308, 1065, 1066, 1067, 1068, 415, 416, 417, 418, 419, 420, 421, 422, 1568, 1569, 1538, 1539, 1540, 1541, 1542, 1543, 1544, 1545, 1546, 1547, 1548, 1549, 1550, 1565, 1566, 1567] (by decide +kernel) (by decide +kernel)) (goodIn_sub (fun _ h => List.mem_append_left _ (List.mem_append_right _ h)) (by decide +kernel))) (goodIn_sub (fun _ h => List.mem_append_left _ (List.mem_append_left _ (List.mem_append_left _ (List.mem_append_right _ h)))) (by decide +kernel))) (goodIn_sub (fun _ h => List.mem_append_left _ (List.mem_append_left _ (List.mem_append_right _ h))) (by decide +kernel))
set_option maxRecDepth 20000 in
theorem gL_law_L_combine : GoodIn wsL_law (va_wsS RL 230 yL_combine wsL_combine) := goodIn_app (goodIn_of _ (by decide +kernel)) ggL_law_L_combine
set_option maxRecDepth 20000 in
theorem ggL_law_X13_combine : GoodIn wsL_law wsX13_combine := goodIn_r _ [1072, 182, 226, 227, 5, 228, 229, 230, 231, 1073, 1074, 1075, 1076, 385, 386, 387, 388, 389, 390, 391, 392, 179, 239, 240, 241, 242, 243, 1077, 1078, 1079, 1080, 548, 549, 550, 557, 558, 559, 560, 561, 562, 563, 564, 565, 566, 567, 568, 569, 570, 571, 13, 14, 1081, 1082, 1083, 1084, 572, 573, 574, 575, 576, 577, 578, 579, 580, 581, 582, 583, 584, 585, 586, 587, 588, 589, 590, 591, 592, 593, 594, 595, 596, 597, 598, 599, 600, 601, 602, 603, 604, 605, 606, 607, 608, 492, 421, 493, 609, 610, 611, 612, 613, 614, 615, 616, 617, 618, 619, 620, 621, 622, 623, 624, 625, 626, 627, 628, 629, 630, 631, 632, 420, 422, 633, 634, 635, 636, 678, 679, 680, 58, 556, 645, 646, 647, 648, 649, 650, 651, 652, 653, 654, 655, 656, 657, 658, 659, 660, 661, 662, 663, 664, 665, 666, 667, 668, 684, 685, 686, 687, 1551, 1552, 1553, 1554, 1555, 1556, 1557, 1558, 1559, 1560, 1561, 1562, 1563, 1564, 1635, 1636, 1637, 1638] (by decide +kernel) (by decide +kernel)
set_option maxRecDepth 20000 in
theorem gL_law_X13_combine : GoodIn wsL_law (wsV RL 232 RX13 yX13_combine wsX13_combine) := goodIn_app (goodIn_of _ (by decide +kernel)) ggL_law_X13_combine
set_option maxRecDepth 20000 in
theorem ggL_law_L_thin : GoodIn wsL_law wsL_thin := goodIn_ca (goodIn_r _ [1087, 191, 1088, 1089, 1090, 2, 1091, 18, 196, 197, 198, 199, 200, 201, 20, 1092, 1093, 1094, 23, 1095, 66, 419, 420, 421, 422, 65, 1060, 1061, 1062, 1063, 376, 347, 348, 349, 1064, 306, 307, 17, 308, 59, 1538, 1539, 1540, 1541, 1542, 1543, 1544, 1545, 1546, 1547, 1548, 1549, 1550, 1568, 1569, 1565, 1566, 1567] (by decide +kernel) (by decide +kernel)) (goodIn_sub (fun _ h => List.mem_append_left _ (List.mem_append_left _ (List.mem_append_left _ (List.mem_append_right _ h)))) (by decide +kernel))
set_option maxRecDepth 20000 in
theorem gL_law_L_thin : GoodIn wsL_law (va_wsS RL 233 yL_thin wsL_thin) := goodIn_app (goodIn_of _ (by decide +kernel)) ggL_law_L_thin
set_option maxRecDepth 20000 in
theorem ggL_law_X13_thin : GoodIn wsL_law wsX13_thin := goodIn_r _ [1099, 182, 226, 227, 5, 228, 229, 230, 231, 239, 240, 241, 242, 243, 1100, 1101, 1102, 1103, 548, 549, 550, 179, 557, 558, 559, 560, 561, 562, 563, 564, 565, 566, 567, 568, 569, 570, 571, 13, 14, 572, 573, 574, 575, 576, 577, 578, 579, 580, 581, 582, 583, 584, 585, 586, 587, 588, 589, 590, 591, 592, 593, 594, 595, 596, 597, 598, 599, 600, 601, 602, 603, 604, 605, 606, 607, 608, 492, 421, 493, 609, 610, 611, 612, 613, 614, 615, 616, 617, 618, 619, 620, 621, 622, 623, 624, 625, 626, 627, 628, 629, 630, 631, 632, 420, 422, 633, 634, 635, 636, 678, 679, 680, 58, 556, 645, 646, 647, 648, 649, 650, 651, 652, 653, 654, 655, 656, 657, 658, 659, 660, 661, 662, 663, 664, 665, 666, 667, 668, 1551, 1552, 1553, 1554, 1555, 1556, 1557, 1558, 1559, 1560, 1561, 1562, 1563, 1564, 1635, 1636, 1637, 1638] (by decide +kernel) (by decide +kernel)
set_option maxRecDepth 20000 in
theorem gL_law_X13_thin : GoodIn wsL_law (wsV RL 236 RX13 yX13_thin wsX13_thin) := goodIn_app (goodIn_of _ (by decide +kernel)) ggL_law_X13_thin
set_option maxRecDepth 20000 in
theorem ggL_law_L_find : GoodIn wsL_law wsL_find := goodIn_ca (goodIn_ca (goodIn_r _ [1106, 191, 1107, 1108, 1109, 2, 1110, 18, 1111, 1112, 1113, 1114, 212, 213, 196, 197, 198, 199, 200, 201, 20, 372, 373, 374, 23, 375, 66, 376, 347, 348, 349, 65, 377, 378, 379, 17, 380, 59, 1115, 1116, 1117, 1118, 1060, 1061, 1062, 1063, 1064, 306, 307, 308, 1119, 1538, 1539, 1540, 1541, 1542, 1543, 1544, 1545, 1546, 1547, 1548, 1549, 1550, 1568, 1569, 1565, 1566, 1567] (by decide +kernel) (by decide +kernel)) (goodIn_sub (fun _ h => List.mem_append_left _ (List.mem_append_right _ h)) (by decide +kernel))) (goodIn_sub (fun _ h => List.mem_append_left _ (List.mem_append_left _ (List.mem_append_left _ (List.mem_append_right _ h)))) (by decide +kernel))
set_option maxRecDepth 20000 in
theorem gL_law_L_find : GoodIn wsL_law (va_wsS RL 237 yL_find wsL_find) := goodIn_app (goodIn_of _ (by decide +kernel)) ggL_law_L_find
set_option maxRecDepth 20000 in
theorem ggL_law_X13_find : GoodIn wsL_law wsX13_find := goodIn_r _ [1123, 182, 179, 226, 227, 5, 228, 229, 230, 231, 1124, 1125, 1126, 1127, 385, 386, 387, 388, 389, 390, 391, 392, 239, 240, 241, 242, 243, 1551, 1552, 1553, 1554, 1555, 1556, 1557, 1558, 1559, 1560, 1561, 1562, 1563, 1564] (by decide +kernel) (by decide +kernel)
set_option maxRecDepth 20000 in
theorem gL_law_X13_find : GoodIn wsL_law (wsV RL 239 RX13 yX13_find wsX13_find) := goodIn_app (goodIn_of _ (by decide +kernel)) ggL_law_X13_find
set_option maxRecDepth 20000 in
theorem ggL_law_L_floor : GoodIn wsL_law wsL_floor := goodIn_ca (goodIn_ca (goodIn_ca (goodIn_r _ [1130, 191, 1131, 1132, 1133, 2, 1134, 1135, 1136, 18, 1111, 1112, 1113, 1114, 212, 213, 196, 197, 198, 199, 200, 201, 20, 372, 373, 374, 23, 375, 66, 376, 347, 348, 349, 65, 377, 378, 379, 17, 380, 59, 1137, 1138, 1139, 1140, 1060, 1061, 1062, 1063, 1064, 306, 307, 308, 1119, 1538, 1539, 1540, 1541, 1542, 1543, 1544, 1545, 1546, 1547, 1548, 1549, 1550, 1568, 1569, 1565, 1566, 1567] (by decide +kernel) (by decide +kernel)) (goodIn_sub (fun _ h => List.mem_append_right _ h) (by decide +kernel))) (goodIn_sub (fun _ h => List.mem_append_left _ (List.mem_append_right _ h)) (by decide +kernel))) (goodIn_sub (fun _ h => List.mem_append_left _ (List.mem_append_left _ (List.mem_append_left _ (List.mem_append_right _ h)))) (by decide +kernel))
set_option maxRecDepth 20000 in
theorem gL_law_L_floor : GoodIn wsL_law (va_wsS RL 240 yL_floor wsL_floor) := goodIn_app (goodIn_of _ (by decide +kernel)) ggL_law_L_floor
set_option maxRecDepth 20000 in
theorem ggL_law_X13_floor : GoodIn wsL_law wsX13_floor := goodIn_r _ [1144, 182, 179, 226, 227, 5, 228, 229, 230, 231, 1124, 1125, 1126, 1127, 385, 386, 387, 388, 389, 390, 391, 392, 239, 240, 241, 242, 243, 1551, 1552, 1553, 1554, 1555, 1556, 1557, 1558, 1559, 1560, 1561, 1562, 1563, 1564] (by decide +kernel) (by decide +kernel)
set_option maxRecDepth 20000 in
theorem gL_law_X13_floor : GoodIn wsL_law (wsV RL 242 RX13 yX13_floor wsX13_floor) := goodIn_app (goodIn_of _ (by decide +kernel)) ggL_law_X13_floor
set_option maxRecDepth 20000 in
theorem ggL_law_L_ceiling : GoodIn wsL_law wsL_ceiling := goodIn_ca (goodIn_ca (goodIn_ca (goodIn_r _ [1147, 191, 1148, 1149, 1150, 2, 1151, 1135, 1136, 18, 1111, 1112, 1113, 1114, 212, 213, 196, 197, 198, 199, 200, 201, 20, 372, 373, 374, 23, 375, 66, 376, 347, 348, 349, 65, 377, 378, 379, 17, 380, 59, 1115, 1116, 1117, 1118, 1060, 1061, 1062, 1063, 1064, 306, 307, 308, 1119, 1538, 1539, 1540, 1541, 1542, 1543, 1544, 1545, 1546, 1547, 1548, 1549, 1550, 1568, 1569, 1565, 1566, 1567] (by decide +kernel) (by decide +kernel)) (goodIn_sub (fun _ h => List.mem_append_right _ h) (by decide +kernel))) (goodIn_sub (fun _ h => List.mem_append_left _ (List.mem_append_right _ h)) (by decide +kernel))) (goodIn_sub (fun _ h => List.mem_append_left _ (List.mem_append_left _ (List.mem_append_left _ (List.mem_append_right _ h)))) (by decide +kernel))
set_option maxRecDepth 20000 in
theorem gL_law_L_ceiling : GoodIn wsL_law (va_wsS RL 243 yL_ceiling wsL_ceiling) := goodIn_app (goodIn_of _ (by decide +kernel)) ggL_law_L_ceiling
set_option maxRecDepth 20000 in
theorem ggL_law_X13_ceiling : GoodIn wsL_law wsX13_ceiling := goodIn_r _ [1155, 182, 179, 226, 227, 5, 228, 229, 230, 231, 1124, 1125, 1126, 1127, 385, 386, 387, 388, 389, 390, 391, 392, 239, 240, 241, 242, 243, 1551, 1552, 1553, 1554, 1555, 1556, 1557, 1558, 1559, 1560, 1561, 1562, 1563, 1564] (by decide +kernel) (by decide +kernel)
set_option maxRecDepth 20000 in
theorem gL_law_X13_ceiling : GoodIn wsL_law (wsV RL 245 RX13 yX13_ceiling wsX13_ceiling) := goodIn_app (goodIn_of _ (by decide +kernel)) ggL_law_X13_ceiling
set_option maxRecDepth 20000 in
theorem ggL_law_L_between : GoodIn wsL_law wsL_between := goodIn_ca (goodIn_ca (goodIn_r _ [1158, 191, 1159, 1160, 1161, 2, 1162, 18, 1163, 492, 421, 493, 1111, 1112, 1113, 1114, 212, 213, 196, 197, 198, 199, 200, 201, 20, 372, 373, 374, 23, 375, 66, 376, 347, 348, 349, 65, 377, 378, 379, 17, 380, 59, 1137, 1138, 1139, 1140, 1060, 1061, 1062, 1063, 1064, 306, 307, 308, 1115, 1116, 1117, 1118, 1538, 1539, 1540, 1541, 1542, 1543, 1544, 1545, 1546, 1547, 1548, 1549, 1550, 1568, 1569, 1565, 1566, 1567] (by decide +kernel) (by decide +kernel)) (goodIn_sub (fun _ h => List.mem_append_left _ (List.mem_append_right _ h)) (by decide +kernel))) (goodIn_sub (fun _ h => List.mem_append_left _ (List.mem_append_left _ (List.mem_append_left _ (List.mem_append_right _ h)))) (by decide +kernel))
set_option maxRecDepth 20000 in
theorem gL_law_L_between : GoodIn wsL_law (va_wsS RL 246 yL_between wsL_between) := goodIn_app (goodIn_of _ (by decide +kernel)) ggL_law_L_between
set_option maxRecDepth 20000 in
theorem ggL_law_X13_between : GoodIn wsL_law wsX13_between := goodIn_r _ [1167, 182, 179, 226, 227, 5, 228, 229, 230, 231, 1124, 1125, 1126, 1127, 385, 386, 387, 388, 389, 390, 391, 392, 239, 240, 241, 242, 243, 1551, 1552, 1553, 1554, 1555, 1556, 1557, 1558, 1559, 1560, 1561, 1562, 1563, 1564] (by decide +kernel) (by decide +kernel)
set_option maxRecDepth 20000 in
theorem gL_law_X13_between : GoodIn wsL_law (wsV RL 248 RX13 yX13_between wsX13_between) := goodIn_app (goodIn_of _ (by decide +kernel)) ggL_law_X13_between
set_option maxRecDepth 20000 in
theorem ggL_law_L_keys : GoodIn wsL_law wsL_keys := goodIn_ca (goodIn_ca (goodIn_r _ [1170, 191, 1171, 1172, 1173, 2, 1174, 18, 1111, 1112, 1113, 1114, 212, 213, 196, 197, 198, 199, 200, 201, 20, 372, 373, 374, 23, 375, 66, 376, 347, 348, 349, 65, 377, 378, 379, 17, 380, 59, 1119, 1061, 1062, 1063, 1064, 306, 307, 308, 1568, 1569, 1538, 1539, 1540, 1541, 1542, 1543, 1544, 1545, 1546, 1547, 1548, 1549, 1550, 1565, 1566, 1567] (by decide +kernel) (by decide +kernel)) (goodIn_sub (fun _ h => List.mem_append_left _ (List.mem_append_right _ h)) (by decide +kernel))) (goodIn_sub (fun _ h => List.mem_append_left _ (List.mem_append_left _ (List.mem_append_left _ (List.mem_append_right _ h)))) (by decide +kernel))
set_option maxRecDepth 20000 in
theorem gL_law_L_keys : GoodIn wsL_law (va_wsS RL 249 yL_keys wsL_keys) := goodIn_app (goodIn_of _ (by decide +kernel)) ggL_law_L_keys
set_option maxRecDepth 20000 in
theorem ggL_law_X13_keys : GoodIn wsL_law wsX13_keys := goodIn_r _ [1178, 182, 226, 227, 5, 228, 229, 230, 231, 1124, 1125, 1126, 1127, 385, 386, 387, 388, 389, 390, 391, 392, 179, 239, 240, 241, 242, 243, 1100, 1101, 1102, 1103, 548, 549, 550, 557, 558, 559, 560, 561, 562, 563, 564, 565, 566, 567, 568, 569, 570, 571, 13, 14, 572, 573, 574, 575, 576, 577, 578, 579, 580, 581, 582, 583, 584, 585, 586, 587, 588, 589, 590, 591, 592, 593, 594, 595, 596, 597, 598, 599, 600, 601, 602, 603, 604, 605, 606, 607, 608, 492, 421, 493, 609, 610, 611, 612, 613, 614, 615, 616, 617, 618, 619, 620, 621, 622, 623, 624, 625, 626, 627, 628, 629, 630, 631, 632, 420, 422, 633, 634, 635, 636, 678, 679, 680, 58, 556, 645, 646, 647, 648, 649, 650, 651, 652, 653, 654, 655, 656, 657, 658, 659, 660, 661, 662, 663, 664, 665, 666, 667, 668, 1551, 1552, 1553, 1554, 1555, 1556, 1557, 1558, 1559, 1560, 1561, 1562, 1563, 1564, 1635, 1636, 1637, 1638] (by decide +kernel) (by decide +kernel)
set_option maxRecDepth 20000 in
theorem gL_law_X13_keys : GoodIn wsL_law (wsV RL 251 RX13 yX13_keys wsX13_keys) := goodIn_app (goodIn_of _ (by decide +kernel)) ggL_law_X13_keys
set_option maxRecDepth 20000 in
theorem ggL_law_L_type : GoodIn wsL_law wsL_type := goodIn_ca (goodIn_r _ [1181, 983, 1182, 1183, 1184, 2, 1185, 212, 213, 49, 1186, 1187, 1188, 1189, 1190, 1191, 1192, 138, 1193, 157, 156, 1538, 1539, 1540, 1541, 1542, 1543, 1544, 1545, 1546, 1547, 1548, 1549, 1550, 1606, 1607, 1608, 1609, 1610, 1611, 1612, 1613, 1614, 1615, 1616, 1617, 1618, 1633, 1634] (by decide +kernel) (by decide +kernel)) (goodIn_sub (fun _ h => List.mem_append_left _ (List.mem_append_right _ h)) (by decide +kernel))
set_option maxRecDepth 20000 in
theorem gL_law_L_type : GoodIn wsL_law (va_wsS RL 254 yL_type wsL_type) := goodIn_app (goodIn_of _ (by decide +kernel)) ggL_law_L_type
set_option maxRecDepth 20000 in
theorem ggL_law_X13_type : GoodIn wsL_law wsX13_type := goodIn_r _ [1197, 1198, 1199, 185, 239, 240, 241, 5, 242, 243, 1551, 1552, 1553, 1554, 1555, 1556, 1557, 1558, 1559, 1560, 1561, 1562, 1563, 1564] (by decide +kernel) (by decide +kernel)
set_option maxRecDepth 20000 in
theorem gL_law_X13_type : GoodIn wsL_law (wsV RL 257 RX13 yX13_type wsX13_type) := goodIn_app (goodIn_of _ (by decide +kernel)) ggL_law_X13_type
set_option maxRecDepth 20000 in
theorem ggL_law_X11_clearText : GoodIn wsL_law wsX11_clearText := goodIn_r _ [1203, 49, 1204, 1205, 1206, 138, 1207, 157, 1538, 1539, 1540, 1541, 1542, 1543, 1544, 1545, 1546, 1547, 1548, 1549, 1550, 1606, 1607, 1608, 1609, 1610, 1611, 1612, 1613, 1614, 1615, 1616, 1617, 1618, 1633, 1634] (by decide +kernel) (by decide +kernel)
set_option maxRecDepth 20000 in
theorem gL_law_X11_clearText : GoodIn wsL_law (wsV RL 258 RX11 yX11_clearText wsX11_clearText) := goodIn_app (goodIn_of _ (by decide +kernel)) ggL_law_X11_clearText
set_option maxRecDepth 20000 in
theorem ggL_law_X13_clearText : GoodIn wsL_law wsX13_clearText := goodIn_r _ [1211, 243, 1199, 1551, 1552, 1553, 1554, 1555, 1556, 1557, 1558, 1559, 1560, 1561, 1562, 1563, 1564] (by decide +kernel) (by decide +kernel)
set_option maxRecDepth 20000 in
theorem gL_law_X13_clearText : GoodIn wsL_law (wsV RL 261 RX13 yX13_clearText wsX13_clearText) := goodIn_app (goodIn_of _ (by decide +kernel)) ggL_law_X13_clearText
set_option maxRecDepth 20000 in
theorem ggL_law_X11_textLength : GoodIn wsL_law wsX11_textLength := goodIn_r _ [1215, 49, 1538, 1539, 1540, 1541, 1542, 1543, 1544, 1545, 1546, 1547, 1548, 1549, 1550, 1606, 1607, 1608, 1609, 1610, 1611, 1612, 1613, 1614, 1615, 1616, 1617, 1618, 1633, 1634] (by decide +kernel) (by decide +kernel)
set_option maxRecDepth 20000 in
theorem gL_law_X11_textLength : GoodIn wsL_law (wsV RL 262 RX11 yX11_textLength wsX11_textLength) := goodIn_app (goodIn_of _ (by decide +kernel)) ggL_law_X11_textLength
set_option maxRecDepth 20000 in
theorem ggL_law_X13_textLength : GoodIn wsL_law wsX13_textLength := goodIn_r _ [1219, 243, 1199, 1551, 1552, 1553, 1554, 1555, 1556, 1557, 1558, 1559, 1560, 1561, 1562, 1563, 1564] (by decide +kernel) (by decide +kernel)
set_option maxRecDepth 20000 in
theorem gL_law_X13_textLength : GoodIn wsL_law (wsV RL 265 RX13 yX13_textLength wsX13_textLength) := goodIn_app (goodIn_of _ (by decide +kernel)) ggL_law_X13_textLength
set_option maxRecDepth 20000 in
theorem ggL_law_L_example : GoodIn wsL_law wsL_example := goodIn_ca (goodIn_r _ [1222, 448, 1223, 1224, 1225, 2, 1226, 49, 202, 203, 204, 205, 206, 207, 1227, 1228, 1229, 138, 1230, 1231, 1205, 1206, 1207, 157, 1232, 1233, 1234, 1235, 1236, 1237, 1238, 1239, 1240, 1241, 1242, 1243, 1244, 1245, 1246, 1247, 1248, 1249, 1250, 1251, 1252, 1253, 1254, 1255, 1256, 1257, 1258, 1259, 1260, 658, 659, 660, 1261, 1262, 1263, 1264, 1265, 1266, 1267, 1268, 1269, 1270, 1271, 1272, 1273, 1274, 1275, 1276, 1277, 1278, 1191, 1192, 1193, 156, 1538, 1539, 1540, 1541, 1542, 1543, 1544, 1545, 1546, 1547, 1548, 1549, 1550, 1606, 1607, 1608, 1609, 1610, 1611, 1612, 1613, 1614, 1615, 1616, 1617, 1618, 1633, 1634] (by decide +kernel) (by decide +kernel)) (goodIn_sub (fun _ h => List.mem_append_left _ (List.mem_append_left _ (List.mem_append_right _ h))) (by decide +kernel))
set_option maxRecDepth 20000 in
theorem gL_law_L_example : GoodIn wsL_law (va_wsS RL 266 yL_example wsL_example) := goodIn_app (goodIn_of _ (by decide +kernel)) ggL_law_L_example
set_option maxRecDepth 20000 in
theorem ggL_law_X13_example : GoodIn wsL_law wsX13_example := goodIn_r _ [1282, 185, 1199, 229, 230, 5, 231, 239, 240, 241, 242, 243, 1283, 1233, 1234, 1235, 1236, 1237, 1238, 1239, 1240, 1241, 1242, 1243, 1284, 1245, 1246, 1247, 1248, 1249, 1250, 1251, 1252, 1253, 1254, 1255, 1256, 1257, 1258, 1259, 1260, 658, 659, 660, 1261, 1262, 1263, 1264, 1265, 1266, 1267, 1268, 1269, 1270, 1271, 1272, 1273, 1274, 1275, 1276, 1277, 1551, 1552, 1553, 1554, 1555, 1556, 1557, 1558, 1559, 1560, 1561, 1562, 1563, 1564] (by decide +kernel) (by decide +kernel)
set_option maxRecDepth 20000 in
theorem gL_law_X13_example : GoodIn wsL_law (wsV RL 268 RX13 yX13_example wsX13_example) := goodIn_app (goodIn_of _ (by decide +kernel)) ggL_law_X13_example
set_option maxRecDepth 20000 in
theorem ggL_law_X11_errorKind : GoodIn wsL_law wsX11_errorKind := goodIn_r _ [1288, 49, 1289, 1290, 1291, 2, 1292, 28, 21, 20, 1293, 1294, 1295, 48, 1296, 145, 151, 152, 1297, 1298, 1299, 1300, 143, 144, 147, 142, 150, 1301, 1302, 1303, 1304, 139, 1305, 1306, 1307, 138, 1308, 157, 156, 1309, 1310, 1311, 1312, 1313, 1314, 27, 1315, 70, 71, 72, 73, 74, 1316, 1317, 1318, 1319, 1320, 1233, 1234, 1235, 1236, 1237, 1238, 1239, 1240, 1241, 1242, 1243, 1321, 1245, 1246, 1247, 1248, 1249, 1250, 1251, 1252, 1253, 1254, 1255, 1256, 1257, 1258, 1259, 1260, 658, 659, 660, 1261, 1262, 1263, 1264, 1265, 1266, 1267, 1268, 1269, 1270, 1271, 1272, 1273, 1274, 1275, 1276, 1277, 1322, 1323, 1324, 1325, 148, 1326, 1327, 1328, 1329, 140, 146, 1330, 1331, 1332, 1333, 1334, 420, 421, 422, 1335, 1336, 1337, 1338, 1339, 1340, 1341, 1342, 1343, 1344, 1345, 1346, 1347, 1348, 1349, 1350, 1351, 1352, 1353, 1354, 1355, 1356, 1357, 1358, 149, 1359, 1360, 1361, 1362, 415, 416, 417, 23, 418, 66, 419, 65, 1363, 1364, 1365, 1366, 45, 18, 1367, 1368, 1369, 1370, 1371, 1372, 1373, 1028, 1029, 1030, 43, 1031, 1032, 897, 898, 899, 116, 123, 118, 124, 126, 127, 128, 129, 130, 131, 132, 900, 487, 488, 31, 489, 490, 491, 492, 493, 494, 495, 496, 35, 497, 87, 88, 498, 499, 500, 501, 80, 78, 502, 347, 348, 349, 503, 378, 379, 17, 380, 59, 504, 505, 506, 507, 508, 509, 510, 511, 85, 86, 512, 513, 514, 515, 84, 516, 517, 518, 519, 520, 521, 522, 523, 79, 524, 525, 526, 527, 528, 529, 530, 531, 532, 533, 534, 535, 901, 738, 739, 94, 740, 108, 741, 742, 109, 111, 110, 107, 743, 744, 745, 746, 902, 903, 1033, 905, 906, 907, 1034, 943, 944, 945, 946, 758, 759, 760, 106, 761, 762, 763, 764, 765, 766, 767, 768, 769, 770, 771, 772, 947, 948, 949, 950, 121, 119, 120, 951, 782, 783, 784, 913, 700, 701, 702, 952, 953, 954, 955, 914, 716, 717, 718, 956, 957, 958, 959, 960, 125, 961, 774, 775, 776, 962, 963, 964, 965, 966, 967, 968, 969, 970, 971, 972, 973, 974, 794, 795, 796, 1035, 909, 910, 911, 912, 401, 402, 403, 915, 720, 721, 916, 219, 220, 221, 1047, 1048, 1049, 1050, 24, 372, 373, 374, 375, 376, 377, 400, 1051, 1052, 1053, 1054, 1055, 1056, 1057, 1058, 1059, 1060, 1061, 1062, 1063, 1064, 306, 307, 308, 1065, 1066, 1067, 1068, 1092, 1093, 1094, 1095, 434, 435, 436, 437, 1538, 1539, 1540, 1541, 1542, 1543, 1544, 1545, 1546, 1547, 1548, 1549, 1550, 1606, 1607, 1608, 1609, 1610, 1611, 1612, 1613, 1614, 1615, 1616, 1617, 1618, 1633, 1634, 1570, 1571, 1572, 1573, 1574, 1568, 1569, 1591, 1592, 1593, 1594, 1595, 1596, 1597, 1598, 1599, 1600, 1601, 1602, 1603, 1604, 1605, 1578, 1579, 1580, 1581, 1582, 1575, 1576, 1577, 1565, 1566, 1567, 1627, 1628, 1629, 1630, 1631, 1632] (by decide +kernel) (by decide +kernel)
set_option maxRecDepth 20000 in
theorem gL_law_X11_errorKind : GoodIn wsL_law (wsV RL 269 RX11 yX11_errorKind wsX11_errorKind) := goodIn_app (goodIn_of _ (by decide +kernel)) ggL_law_X11_errorKind
set_option maxRecDepth 20000 in
theorem ggL_law_X13_errorKind : GoodIn wsL_law wsX13_errorKind := goodIn_r _ [1377, 243, 1378, 1379, 1380, 1381, 5, 1382, 183, 182, 1383, 1384, 1385, 1386, 1387, 1388, 1389, 1199, 1390, 1391, 1392, 1393, 185, 1394, 1395, 1396, 229, 230, 231, 1397, 1398, 1399, 1400, 1401, 1402, 1403, 1404, 1405, 1406, 1407, 1283, 1233, 1234, 1235, 1236, 1237, 1238, 1239, 1240, 1241, 1242, 1243, 1284, 1245, 1246, 1247, 1248, 1249, 1250, 1251, 1252, 1253, 1254, 1255, 1256, 1257, 1258, 1259, 1260, 658, 659, 660, 1261, 1262, 1263, 1264, 1265, 1266, 1267, 1268, 1269, 1270, 1271, 1272, 1273, 1274, 1275, 1276, 1277, 1408, 1409, 1410, 1411, 58, 184, 801, 802, 803, 1412, 1413, 1414, 1415, 1416, 1417, 1418, 1419, 555, 420, 421, 422, 1420, 1421, 1422, 1423, 1424, 1425, 1426, 1427, 1428, 1429, 1430, 1431, 804, 805, 806, 807, 808, 13, 14, 809, 810, 549, 550, 811, 812, 813, 814, 815, 558, 559, 560, 561, 562, 563, 564, 565, 566, 567, 568, 569, 570, 571, 545, 546, 547, 548, 551, 552, 553, 554, 556, 557, 572, 573, 574, 575, 576, 577, 578, 579, 580, 581, 582, 583, 584, 585, 586, 587, 588, 589, 590, 591, 592, 593, 594, 595, 596, 597, 598, 599, 600, 601, 602, 603, 604, 605, 606, 607, 608, 492, 493, 609, 610, 611, 612, 613, 614, 615, 616, 617, 618, 619, 620, 621, 622, 623, 624, 625, 626, 627, 628, 629, 630, 631, 632, 633, 634, 635, 636, 637, 638, 639, 640, 641, 642, 643, 644, 645, 646, 647, 648, 649, 650, 651, 652, 653, 654, 655, 656, 657, 661, 662, 663, 664, 665, 666, 667, 668, 389, 390, 391, 392, 179, 669, 670, 671, 672, 673, 674, 675, 676, 677, 678, 679, 680, 681, 682, 683, 684, 685, 686, 687, 816, 817, 818, 819, 820, 821, 822, 823, 824, 825, 826, 827, 828, 829, 830, 831, 832, 833, 834, 835, 836, 837, 838, 839, 840, 841, 842, 843, 844, 845, 846, 847, 848, 849, 850, 851, 852, 853, 854, 855, 856, 857, 858, 859, 860, 861, 862, 863, 864, 865, 866, 867, 868, 869, 927, 928, 929, 930, 1432, 1433, 1434, 1435, 1073, 1074, 1075, 1076, 385, 386, 387, 388, 1077, 1078, 1079, 1080, 1081, 1082, 1083, 1084, 1436, 1437, 1438, 1439, 1440, 1441, 1442, 1443, 442, 443, 444, 1100, 1101, 1102, 1103, 1551, 1552, 1553, 1554, 1555, 1556, 1557, 1558, 1559, 1560, 1561, 1562, 1563, 1564, 1639, 1640, 1641, 1642, 1643, 1644, 1645, 1646, 1647, 1648, 1649, 1650, 1635, 1636, 1637, 1638] (by decide +kernel) (by decide +kernel)
set_option maxRecDepth 20000 in
theorem gL_law_X13_errorKind : GoodIn wsL_law (wsV RL 272 RX13 yX13_errorKind wsX13_errorKind) := goodIn_app (goodIn_of _ (by decide +kernel)) ggL_law_X13_errorKind
set_option maxRecDepth 20000 in
theorem ggL_law_X11_errorPlace : GoodIn wsL_law wsX11_errorPlace := goodIn_r _ [1447, 49, 1289, 1290, 1291, 2, 1292, 28, 21, 20, 1293, 1294, 1295, 48, 1296, 145, 151, 152, 1297, 1298, 1299, 1300, 143, 144, 147, 142, 150, 1301, 1302, 1303, 1304, 139, 1305, 1306, 1307, 138, 1308, 157, 156, 1309, 1310, 1311, 1312, 1313, 1314, 27, 1315, 70, 71, 72, 73, 74, 1316, 1317, 1318, 1319, 1320, 1233, 1234, 1235, 1236, 1237, 1238, 1239, 1240, 1241, 1242, 1243, 1321, 1245, 1246, 1247, 1248, 1249, 1250, 1251, 1252, 1253, 1254, 1255, 1256, 1257, 1258, 1259, 1260, 658, 659, 660, 1261, 1262, 1263, 1264, 1265, 1266, 1267, 1268, 1269, 1270, 1271, 1272, 1273, 1274, 1275, 1276, 1277, 1322, 1323, 1324, 1325, 148, 1326, 1327, 1328, 1329, 140, 146, 1330, 1331, 1332, 1333, 1334, 420, 421, 422, 1335, 1336, 1337, 1338, 1339, 1340, 1341, 1342, 1343, 1344, 1345, 1346, 1347, 1348, 1349, 1350, 1351, 1352, 1353, 1354, 1355, 1356, 1357, 1358, 149, 1359, 1360, 1361, 1362, 415, 416, 417, 23, 418, 66, 419, 65, 1363, 1364, 1365, 1366, 45, 18, 1367, 1368, 1369, 1370, 1371, 1372, 1373, 1028, 1029, 1030, 43, 1031, 1032, 897, 898, 899, 116, 123, 118, 124, 126, 127, 128, 129, 130, 131, 132, 900, 487, 488, 31, 489, 490, 491, 492, 493, 494, 495, 496, 35, 497, 87, 88, 498, 499, 500, 501, 80, 78, 502, 347, 348, 349, 503, 378, 379, 17, 380, 59, 504, 505, 506, 507, 508, 509, 510, 511, 85, 86, 512, 513, 514, 515, 84, 516, 517, 518, 519, 520, 521, 522, 523, 79, 524, 525, 526, 527, 528, 529, 530, 531, 532, 533, 534, 535, 901, 738, 739, 94, 740, 108, 741, 742, 109, 111, 110, 107, 743, 744, 745, 746, 902, 903, 1033, 905, 906, 907, 1034, 943, 944, 945, 946, 758, 759, 760, 106, 761, 762, 763, 764, 765, 766, 767, 768, 769, 770, 771, 772, 947, 948, 949, 950, 121, 119, 120, 951, 782, 783, 784, 913, 700, 701, 702, 952, 953, 954, 955, 914, 716, 717, 718, 956, 957, 958, 959, 960, 125, 961, 774, 775, 776, 962, 963, 964, 965, 966, 967, 968, 969, 970, 971, 972, 973, 974, 794, 795, 796, 1035, 909, 910, 911, 912, 401, 402, 403, 915, 720, 721, 916, 219, 220, 221, 1047, 1048, 1049, 1050, 24, 372, 373, 374, 375, 376, 377, 400, 1051, 1052, 1053, 1054, 1055, 1056, 1057, 1058, 1059, 1060, 1061, 1062, 1063, 1064, 306, 307, 308, 1065, 1066, 1067, 1068, 1092, 1093, 1094, 1095, 434, 435, 436, 437, 1538, 1539, 1540, 1541, 1542, 1543, 1544, 1545, 1546, 1547, 1548, 1549, 1550, 1606, 1607, 1608, 1609, 1610, 1611, 1612, 1613, 1614, 1615, 1616, 1617, 1618, 1633, 1634, 1570, 1571, 1572, 1573, 1574, 1568, 1569, 1591, 1592, 1593, 1594, 1595, 1596, 1597, 1598, 1599, 1600, 1601, 1602, 1603, 1604, 1605, 1578, 1579, 1580, 1581, 1582, 1575, 1576, 1577, 1565, 1566, 1567, 1627, 1628, 1629, 1630, 1631, 1632] (by decide +kernel) (by decide +kernel)
set_option maxRecDepth 20000 in
theorem gL_law_X11_errorPlace : GoodIn wsL_law (wsV RL 273 RX11 yX11_errorPlace wsX11_errorPlace) := goodIn_app (goodIn_of _ (by decide +kernel)) ggL_law_X11_errorPlace
set_option maxRecDepth 20000 in
theorem ggL_law_X13_errorPlace : GoodIn wsL_law wsX13_errorPlace := goodIn_r _ [1451, 243, 1387, 1379, 1380, 1381, 5, 1382, 1378, 183, 182, 1383, 1384, 1385, 1386, 1388, 1389, 1199, 1390, 1391, 1392, 1393, 185, 1394, 1395, 1396, 229, 230, 231, 1397, 1398, 1399, 1400, 1401, 1402, 1403, 1404, 1405, 1406, 1407, 1283, 1233, 1234, 1235, 1236, 1237, 1238, 1239, 1240, 1241, 1242, 1243, 1284, 1245, 1246, 1247, 1248, 1249, 1250, 1251, 1252, 1253, 1254, 1255, 1256, 1257, 1258, 1259, 1260, 658, 659, 660, 1261, 1262, 1263, 1264, 1265, 1266, 1267, 1268, 1269, 1270, 1271, 1272, 1273, 1274, 1275, 1276, 1277, 1408, 1409, 1410, 1411, 58, 184, 801, 802, 803, 1412, 1413, 1414, 1415, 1416, 1417, 1418, 1419, 555, 420, 421, 422, 1420, 1421, 1422, 1423, 1424, 1425, 1426, 1427, 1428, 1429, 1430, 1431, 804, 805, 806, 807, 808, 13, 14, 809, 810, 549, 550, 811, 812, 813, 814, 815, 558, 559, 560, 561, 562, 563, 564, 565, 566, 567, 568, 569, 570, 571, 545, 546, 547, 548, 551, 552, 553, 554, 556, 557, 572, 573, 574, 575, 576, 577, 578, 579, 580, 581, 582, 583, 584, 585, 586, 587, 588, 589, 590, 591, 592, 593, 594, 595, 596, 597, 598, 599, 600, 601, 602, 603, 604, 605, 606, 607, 608, 492, 493, 609, 610, 611, 612, 613, 614, 615, 616, 617, 618, 619, 620, 621, 622, 623, 624, 625, 626, 627, 628, 629, 630, 631, 632, 633, 634, 635, 636, 637, 638, 639, 640, 641, 642, 643, 644, 645, 646, 647, 648, 649, 650, 651, 652, 653, 654, 655, 656, 657, 661, 662, 663, 664, 665, 666, 667, 668, 389, 390, 391, 392, 179, 669, 670, 671, 672, 673, 674, 675, 676, 677, 678, 679, 680, 681, 682, 683, 684, 685, 686, 687, 816, 817, 818, 819, 820, 821, 822, 823, 824, 825, 826, 827, 828, 829, 830, 831, 832, 833, 834, 835, 836, 837, 838, 839, 840, 841, 842, 843, 844, 845, 846, 847, 848, 849, 850, 851, 852, 853, 854, 855, 856, 857, 858, 859, 860, 861, 862, 863, 864, 865, 866, 867, 868, 869, 927, 928, 929, 930, 1432, 1433, 1434, 1435, 1073, 1074, 1075, 1076, 385, 386, 387, 388, 1077, 1078, 1079, 1080, 1081, 1082, 1083, 1084, 1436, 1437, 1438, 1439, 1440, 1441, 1442, 1443, 442, 443, 444, 1100, 1101, 1102, 1103, 1551, 1552, 1553, 1554, 1555, 1556, 1557, 1558, 1559, 1560, 1561, 1562, 1563, 1564, 1639, 1640, 1641, 1642, 1643, 1644, 1645, 1646, 1647, 1648, 1649, 1650, 1635, 1636, 1637, 1638] (by decide +kernel) (by decide +kernel)
set_option maxRecDepth 20000 in
theorem gL_law_X13_errorPlace : GoodIn wsL_law (wsV RL 276 RX13 yX13_errorPlace wsX13_errorPlace) := goodIn_app (goodIn_of _ (by decide +kernel)) ggL_law_X13_errorPlace
set_option maxRecDepth 20000 in
theorem ggL_law_L_run : GoodIn wsL_law wsL_run := goodIn_ca (goodIn_r _ [1454, 983, 1455, 1456, 1457, 2, 1458, 212, 213, 49, 20, 21, 1289, 1290, 1291, 1292, 28, 1293, 1294, 1295, 48, 1296, 145, 151, 152, 1297, 1298, 1299, 1300, 143, 144, 147, 142, 150, 1301, 1302, 1303, 1304, 139, 1305, 1306, 1307, 138, 1308, 157, 156, 1309, 1310, 1311, 1312, 1313, 1314, 27, 1315, 70, 71, 72, 73, 74, 1316, 1317, 1318, 1319, 1320, 1233, 1234, 1235, 1236, 1237, 1238, 1239, 1240, 1241, 1242, 1243, 1321, 1245, 1246, 1247, 1248, 1249, 1250, 1251, 1252, 1253, 1254, 1255, 1256, 1257, 1258, 1259, 1260, 658, 659, 660, 1261, 1262, 1263, 1264, 1265, 1266, 1267, 1268, 1269, 1270, 1271, 1272, 1273, 1274, 1275, 1276, 1277, 1322, 1323, 1324, 1325, 148, 1326, 1327, 1328, 1329, 140, 146, 1330, 1331, 1332, 1333, 1334, 420, 421, 422, 1335, 1336, 1337, 1338, 1339, 1340, 1341, 1342, 1343, 1344, 1345, 1346, 1347, 1348, 1349, 1350, 1351, 1352, 1353, 1354, 1355, 1356, 1357, 1358, 149, 1359, 1360, 1361, 1362, 415, 416, 417, 23, 418, 66, 419, 65, 1363, 1364, 1365, 1366, 45, 18, 1367, 1368, 1369, 1370, 1371, 1372, 1373, 1028, 1029, 1030, 43, 1031, 1032, 897, 898, 899, 116, 123, 118, 124, 126, 127, 128, 129, 130, 131, 132, 900, 487, 488, 31, 489, 490, 491, 492, 493, 494, 495, 496, 35, 497, 87, 88, 498, 499, 500, 501, 80, 78, 502, 347, 348, 349, 503, 378, 379, 17, 380, 59, 504, 505, 506, 507, 508, 509, 510, 511, 85, 86, 512, 513, 514, 515, 84, 516, 517, 518, 519, 520, 521, 522, 523, 79, 524, 525, 526, 527, 528, 529, 530, 531, 532, 533, 534, 535, 901, 738, 739, 94, 740, 108, 741, 742, 109, 111, 110, 107, 743, 744, 745, 746, 902, 903, 1033, 905, 906, 907, 1034, 943, 944, 945, 946, 758, 759, 760, 106, 761, 762, 763, 764, 765, 766, 767, 768, 769, 770, 771, 772, 947, 948, 949, 950, 121, 119, 120, 951, 782, 783, 784, 913, 700, 701, 702, 952, 953, 954, 955, 914, 716, 717, 718, 956, 957, 958, 959, 960, 125, 961, 774, 775, 776, 962, 963, 964, 965, 966, 967, 968, 969, 970, 971, 972, 973, 974, 794, 795, 796, 1035, 909, 910, 911, 912, 401, 402, 403, 915, 720, 721, 916, 219, 220, 221, 1047, 1048, 1049, 1050, 24, 372, 373, 374, 375, 376, 377, 400, 1051, 1052, 1053, 1054, 1055, 1056, 1057, 1058, 1059, 1060, 1061, 1062, 1063, 1064, 306, 307, 308, 1065, 1066, 1067, 1068, 1092, 1093, 1094, 1095, 434, 435, 436, 437, 1538, 1539, 1540, 1541, 1542, 1543, 1544, 1545, 1546, 1547, 1548, 1549, 1550, 1606, 1607, 1608, 1609, 1610, 1611, 1612, 1613, 1614, 1615, 1616, 1617, 1618, 1633, 1634, 1570, 1571, 1572, 1573, 1574, 1568, 1569, 1591, 1592, 1593, 1594, 1595, 1596, 1597, 1598, 1599, 1600, 1601, 1602, 1603, 1604, 1605, 1578, 1579, 1580, 1581, 1582, 1575, 1576, 1577, 1565, 1566, 1567, 1627, 1628, 1629, 1630, 1631, 1632] (by decide +kernel) (by decide +kernel)) (goodIn_sub (fun _ h => List.mem_append_left _ (List.mem_append_right _ h)) (by decide +kernel))
set_option maxRecDepth 20000 in
theorem gL_law_L_run : GoodIn wsL_law (va_wsS RL 277 yL_run wsL_run) := goodIn_app (goodIn_of _ (by decide +kernel)) ggL_law_L_run
set_option maxRecDepth 20000 in
theorem ggL_law_X13_run : GoodIn wsL_law wsX13_run := goodIn_r _ [1462, 1378, 182, 183, 1379, 1380, 1381, 5, 1382, 1383, 1384, 1385, 1386, 1387, 1388, 1389, 1199, 1390, 1391, 1392, 1393, 185, 1394, 1395, 1396, 229, 230, 231, 1397, 1398, 1399, 1400, 1401, 1402, 1403, 1404, 1405, 1406, 1407, 1283, 1233, 1234, 1235, 1236, 1237, 1238, 1239, 1240, 1241, 1242, 1243, 1284, 1245, 1246, 1247, 1248, 1249, 1250, 1251, 1252, 1253, 1254, 1255, 1256, 1257, 1258, 1259, 1260, 658, 659, 660, 1261, 1262, 1263, 1264, 1265, 1266, 1267, 1268, 1269, 1270, 1271, 1272, 1273, 1274, 1275, 1276, 1277, 1408, 1409, 1410, 1411, 58, 184, 801, 802, 803, 1412, 1413, 1414, 1415, 1416, 1417, 1418, 1419, 555, 420, 421, 422, 1420, 1421, 1422, 1423, 1424, 1425, 1426, 1427, 1428, 1429, 1430, 1431, 804, 805, 806, 807, 808, 13, 14, 809, 810, 549, 550, 811, 812, 813, 814, 815, 558, 559, 560, 561, 562, 563, 564, 565, 566, 567, 568, 569, 570, 571, 545, 546, 547, 548, 551, 552, 553, 554, 556, 557, 572, 573, 574, 575, 576, 577, 578, 579, 580, 581, 582, 583, 584, 585, 586, 587, 588, 589, 590, 591, 592, 593, 594, 595, 596, 597, 598, 599, 600, 601, 602, 603, 604, 605, 606, 607, 608, 492, 493, 609, 610, 611, 612, 613, 614, 615, 616, 617, 618, 619, 620, 621, 622, 623, 624, 625, 626, 627, 628, 629, 630, 631, 632, 633, 634, 635, 636, 637, 638, 639, 640, 641, 642, 643, 644, 645, 646, 647, 648, 649, 650, 651, 652, 653, 654, 655, 656, 657, 661, 662, 663, 664, 665, 666, 667, 668, 389, 390, 391, 392, 179, 669, 670, 671, 672, 673, 674, 675, 676, 677, 678, 679, 680, 681, 682, 683, 684, 685, 686, 687, 816, 817, 818, 819, 820, 821, 822, 823, 824, 825, 826, 827, 828, 829, 830, 831, 832, 833, 834, 835, 836, 837, 838, 839, 840, 841, 842, 843, 844, 845, 846, 847, 848, 849, 850, 851, 852, 853, 854, 855, 856, 857, 858, 859, 860, 861, 862, 863, 864, 865, 866, 867, 868, 869, 927, 928, 929, 930, 1432, 1433, 1434, 1435, 1073, 1074, 1075, 1076, 385, 386, 387, 388, 1077, 1078, 1079, 1080, 1081, 1082, 1083, 1084, 1436, 1437, 1438, 1439, 1440, 1441, 1442, 1443, 442, 443, 444, 1100, 1101, 1102, 1103, 239, 240, 241, 242, 243, 1551, 1552, 1553, 1554, 1555, 1556, 1557, 1558, 1559, 1560, 1561, 1562, 1563, 1564, 1639, 1640, 1641, 1642, 1643, 1644, 1645, 1646, 1647, 1648, 1649, 1650, 1635, 1636, 1637, 1638] (by decide +kernel) (by decide +kernel)
set_option maxRecDepth 20000 in
theorem gL_law_X13_run : GoodIn wsL_law (wsV RL 279 RX13 yX13_run wsX13_run) := goodIn_app (goodIn_of _ (by decide +kernel)) ggL_law_X13_run
set_option maxRecDepth 20000 in
theorem ggL_law_L_errors : GoodIn wsL_law wsL_errors := goodIn_ca (goodIn_r _ [1465, 191, 1466, 1467, 1468, 2, 1469, 53, 18, 28, 196, 197, 198, 199, 200, 201, 20, 1470, 1471, 1472, 52, 1473, 174, 168, 162, 170, 1474, 1313, 1314, 27, 1315, 70, 71, 72, 73, 74, 1475, 487, 488, 31, 489, 490, 420, 421, 422, 491, 492, 493, 494, 495, 496, 35, 497, 87, 88, 498, 499, 500, 501, 80, 78, 502, 347, 348, 23, 349, 66, 65, 503, 378, 379, 17, 380, 59, 504, 505, 506, 507, 508, 509, 510, 511, 85, 86, 512, 513, 514, 515, 84, 516, 517, 518, 519, 520, 521, 522, 523, 79, 524, 525, 526, 527, 528, 529, 530, 531, 532, 533, 534, 535, 1476, 1477, 1478, 1479, 1480, 700, 701, 702, 1481, 1482, 1483, 1484, 1485, 373, 374, 375, 376, 377, 1486, 1487, 1488, 1489, 164, 172, 166, 1490, 1029, 1030, 43, 1031, 1032, 897, 898, 899, 116, 123, 118, 124, 126, 127, 128, 129, 130, 131, 132, 900, 901, 738, 739, 94, 740, 108, 741, 742, 109, 111, 110, 107, 743, 744, 745, 746, 902, 903, 1033, 905, 906, 907, 1034, 943, 944, 945, 946, 758, 759, 760, 106, 761, 762, 763, 764, 765, 766, 767, 768, 769, 770, 771, 772, 947, 948, 949, 950, 121, 119, 120, 951, 782, 783, 784, 913, 952, 953, 954, 955, 914, 716, 717, 718, 956, 957, 958, 959, 960, 125, 961, 774, 775, 776, 962, 963, 964, 965, 966, 967, 968, 969, 970, 971, 972, 973, 974, 794, 795, 796, 1035, 909, 910, 911, 912, 401, 402, 403, 915, 720, 721, 916, 219, 220, 221, 1491, 1492, 1493, 1494, 173, 1495, 1496, 1497, 1498, 1499, 1500, 734, 735, 39, 736, 95, 100, 101, 102, 98, 737, 747, 748, 749, 750, 751, 96, 752, 753, 754, 755, 756, 99, 97, 757, 773, 777, 778, 779, 780, 781, 785, 786, 787, 788, 789, 790, 791, 792, 793, 1501, 1502, 1503, 1504, 1505, 878, 879, 880, 881, 882, 883, 884, 1538, 1539, 1540, 1541, 1542, 1543, 1544, 1545, 1546, 1547, 1548, 1549, 1550, 1619, 1620, 1621, 1622, 1623, 1624, 1625, 1626, 1570, 1571, 1572, 1573, 1574, 1578, 1579, 1580, 1581, 1582, 1575, 1576, 1577, 1568, 1569, 1565, 1566, 1567, 1583, 1584, 1585, 1586, 1587, 1588, 1589, 1590, 1591, 1592, 1593, 1594, 1595, 1596, 1597, 1598, 1599, 1600, 1601, 1602, 1603, 1604, 1605, 1627, 1628, 1629, 1630, 1631, 1632] (by decide +kernel) (by decide +kernel)) (goodIn_sub (fun _ h => List.mem_append_left _ (List.mem_append_left _ (List.mem_append_left _ (List.mem_append_right _ h)))) (by decide +kernel))
set_option maxRecDepth 20000 in
theorem gL_law_L_errors : GoodIn wsL_law (va_wsS RL 280 yL_errors wsL_errors) := goodIn_app (goodIn_of _ (by decide +kernel)) ggL_law_L_errors
set_option maxRecDepth 20000 in
theorem ggL_law_X13_errors : GoodIn wsL_law wsX13_errors := goodIn_r _ [1509, 182, 184, 58, 801, 802, 803, 226, 227, 5, 228, 229, 230, 231, 239, 240, 241, 242, 243, 681, 682, 683, 684, 685, 686, 687, 389, 390, 391, 392, 179, 1510, 1511, 1512, 1513, 707, 544, 545, 546, 547, 548, 549, 550, 551, 552, 553, 554, 555, 420, 421, 422, 556, 557, 558, 559, 560, 561, 562, 563, 564, 565, 566, 567, 568, 569, 570, 571, 13, 14, 572, 573, 574, 575, 576, 577, 578, 579, 580, 581, 582, 583, 584, 585, 586, 587, 588, 589, 590, 591, 592, 593, 594, 595, 596, 597, 598, 599, 600, 601, 602, 603, 604, 605, 606, 607, 608, 492, 493, 609, 610, 611, 612, 613, 614, 615, 616, 617, 618, 619, 620, 621, 622, 623, 624, 625, 626, 627, 628, 629, 630, 631, 632, 633, 634, 635, 636, 637, 638, 639, 640, 641, 642, 643, 644, 645, 646, 647, 648, 649, 650, 651, 652, 653, 654, 655, 656, 657, 658, 659, 660, 661, 662, 663, 664, 665, 666, 667, 668, 669, 670, 671, 672, 673, 674, 675, 676, 677, 678, 679, 680, 804, 805, 806, 807, 808, 809, 810, 811, 812, 813, 814, 815, 816, 817, 818, 819, 820, 821, 822, 823, 824, 825, 826, 827, 828, 829, 830, 831, 832, 833, 834, 835, 836, 837, 838, 839, 840, 841, 842, 843, 844, 845, 846, 847, 848, 849, 850, 851, 852, 853, 854, 855, 856, 857, 858, 859, 860, 861, 862, 863, 864, 865, 866, 867, 868, 869, 927, 928, 929, 930, 1514, 1515, 1516, 1551, 1552, 1553, 1554, 1555, 1556, 1557, 1558, 1559, 1560, 1561, 1562, 1563, 1564, 1639, 1640, 1641, 1642, 1643, 1644, 1645, 1646, 1647, 1648, 1649, 1650, 1635, 1636, 1637, 1638] (by decide +kernel) (by decide +kernel)
set_option maxRecDepth 20000 in
theorem gL_law_X13_errors : GoodIn wsL_law (wsV RL 282 RX13 yX13_errors wsX13_errors) := goodIn_app (goodIn_of _ (by decide +kernel)) ggL_law_X13_errors
set_option maxRecDepth 20000 in
theorem ggL_law_L_meanKey : GoodIn wsL_law wsL_meanKey := goodIn_ca (goodIn_r _ [1519, 191, 1520, 1521, 1522, 2, 1523, 18, 196, 197, 198, 199, 200, 201, 20, 1119, 1061, 1062, 23, 1063, 376, 347, 348, 349, 66, 65, 1064, 306, 307, 17, 308, 59, 1568, 1569, 1538, 1539, 1540, 1541, 1542, 1543, 1544, 1545, 1546, 1547, 1548, 1549, 1550, 1565, 1566, 1567] (by decide +kernel) (by decide +kernel)) (goodIn_sub (fun _ h => List.mem_append_left _ (List.mem_append_left _ (List.mem_append_left _ (List.mem_append_right _ h)))) (by decide +kernel))
set_option maxRecDepth 20000 in
theorem gL_law_L_meanKey : GoodIn wsL_law (va_wsS RL 283 yL_meanKey wsL_meanKey) := goodIn_app (goodIn_of _ (by decide +kernel)) ggL_law_L_meanKey
set_option maxRecDepth 20000 in
theorem ggL_law_X13_meanKey : GoodIn wsL_law wsX13_meanKey := goodIn_r _ [1527, 182, 179, 226, 227, 5, 228, 229, 230, 231, 239, 240, 241, 242, 243, 1551, 1552, 1553, 1554, 1555, 1556, 1557, 1558, 1559, 1560, 1561, 1562, 1563, 1564] (by decide +kernel) (by decide +kernel)
set_option maxRecDepth 20000 in
theorem gL_law_X13_meanKey : GoodIn wsL_law (wsV RL 286 RX13 yX13_meanKey wsX13_meanKey) := goodIn_app (goodIn_of _ (by decide +kernel)) ggL_law_X13_meanKey
set_option maxRecDepth 20000 in
theorem ggL_law_X11_sortedShare : GoodIn wsL_law wsX11_sortedShare := goodIn_r _ [1531, 20, 18, 1532, 372, 373, 374, 23, 375, 66, 376, 347, 348, 349, 65, 377, 378, 379, 17, 380, 59, 1538, 1539, 1540, 1541, 1542, 1543, 1544, 1545, 1546, 1547, 1548, 1549, 1550, 1568, 1569, 1565, 1566, 1567] (by decide +kernel) (by decide +kernel)
set_option maxRecDepth 20000 in
theorem gL_law_X11_sortedShare : GoodIn wsL_law (wsV RL 287 RX11 yX11_sortedShare wsX11_sortedShare) := goodIn_app (goodIn_of _ (by decide +kernel)) ggL_law_X11_sortedShare
set_option maxRecDepth 20000 in
theorem ggL_law_X13_sortedShare : GoodIn wsL_law wsX13_sortedShare := goodIn_r _ [1536, 243, 182, 1537, 385, 386, 387, 5, 388, 389, 390, 391, 392, 179, 1551, 1552, 1553, 1554, 1555, 1556, 1557, 1558, 1559, 1560, 1561, 1562, 1563, 1564] (by decide +kernel) (by decide +kernel)
set_option maxRecDepth 20000 in
theorem gL_law_X13_sortedShare : GoodIn wsL_law (wsV RL 291 RX13 yX13_sortedShare wsX13_sortedShare) := goodIn_app (goodIn_of _ (by decide +kernel)) ggL_law_X13_sortedShare
theorem dL_law_0 : decode cL_law 0 = .ok (.new 8, 3) := by decide +kernel
theorem dL_law_3 : decode cL_law 3 = .ok (.dup, 1) := by decide +kernel
theorem dL_law_4 : decode cL_law 4 = .ok (.invokespecial 137, 3) := by decide +kernel
theorem dL_law_7 : decode cL_law 7 = .ok (.astore_n 1, 1) := by decide +kernel
theorem dL_law_8 : decode cL_law 8 = .ok (.new 138, 3) := by decide +kernel
theorem dL_law_11 : decode cL_law 11 = .ok (.dup, 1) := by decide +kernel
theorem dL_law_12 : decode cL_law 12 = .ok (.invokespecial 140, 3) := by decide +kernel
theorem dL_law_15 : decode cL_law 15 = .ok (.astore_n 2, 1) := by decide +kernel
theorem dL_law_16 : decode cL_law 16 = .ok (.iconst 1, 1) := by decide +kernel
theorem dL_law_17 : decode cL_law 17 = .ok (.newarray .long, 2) := by decide +kernel
theorem dL_law_19 : decode cL_law 19 = .ok (.astore_n 3, 1) := by decide +kernel
theorem dL_law_20 : decode cL_law 20 = .ok (.iconst 1, 1) := by decide +kernel
theorem dL_law_21 : decode cL_law 21 = .ok (.newarray .double, 2) := by decide +kernel
theorem dL_law_23 : decode cL_law 23 = .ok (.astore 4, 2) := by decide +kernel
theorem dL_law_25 : decode cL_law 25 = .ok (.iconst 0, 1) := by decide +kernel
theorem dL_law_26 : decode cL_law 26 = .ok (.istore 5, 2) := by decide +kernel
theorem dL_law_28 : decode cL_law 28 = .ok (.iload 5, 2) := by decide +kernel
theorem dL_law_30 : decode cL_law 30 = .ok (.aload_n 0, 1) := by decide +kernel
theorem dL_law_31 : decode cL_law 31 = .ok (.arraylength, 1) := by decide +kernel
theorem dL_law_32 : decode cL_law 32 = .ok (.iconst 5, 1) := by decide +kernel
theorem dL_law_33 : decode cL_law 33 = .ok (.isub, 1) := by decide +kernel
theorem dL_law_34 : decode cL_law 34 = .ok (.if_icmp .gt 2784, 3) := by decide +kernel
theorem dL_law_37 : decode cL_law 37 = .ok (.aload_n 0, 1) := by decide +kernel
theorem dL_law_38 : decode cL_law 38 = .ok (.iload 5, 2) := by decide +kernel
theorem dL_law_40 : decode cL_law 40 = .ok (.iaload, 1) := by decide +kernel
theorem dL_law_41 : decode cL_law 41 = .ok (.bipush 63, 2) := by decide +kernel
theorem dL_law_43 : decode cL_law 43 = .ok (.iand, 1) := by decide +kernel
theorem dL_law_44 : decode cL_law 44 = .ok (.tableswitch 2768 0 42 #[188, 268, 360, 452, 465, 521, 577, 633, 701, 757, 832, 888, 956, 1012, 1092, 1160, 1216, 1272, 1340, 1420, 1488, 1544, 1612, 1668, 1712, 1768, 1836, 1928, 2012, 2080, 2148, 2216, 2296, 2352, 2440, 2453, 2466, 2522, 2535, 2548, 2592, 2648, 2725], 188) := by decide +kernel
theorem dL_law_232 : decode cL_law 232 = .ok (.aload_n 1, 1) := by decide +kernel
theorem dL_law_233 : decode cL_law 233 = .ok (.aload_n 0, 1) := by decide +kernel
theorem dL_law_234 : decode cL_law 234 = .ok (.iload 5, 2) := by decide +kernel
theorem dL_law_236 : decode cL_law 236 = .ok (.iconst 1, 1) := by decide +kernel
theorem dL_law_237 : decode cL_law 237 = .ok (.iadd, 1) := by decide +kernel
theorem dL_law_238 : decode cL_law 238 = .ok (.iaload, 1) := by decide +kernel
theorem dL_law_239 : decode cL_law 239 = .ok (.aload_n 0, 1) := by decide +kernel
theorem dL_law_240 : decode cL_law 240 = .ok (.iload 5, 2) := by decide +kernel
theorem dL_law_242 : decode cL_law 242 = .ok (.iconst 2, 1) := by decide +kernel
theorem dL_law_243 : decode cL_law 243 = .ok (.iadd, 1) := by decide +kernel
theorem dL_law_244 : decode cL_law 244 = .ok (.iaload, 1) := by decide +kernel
theorem dL_law_245 : decode cL_law 245 = .ok (.aload_n 0, 1) := by decide +kernel
theorem dL_law_246 : decode cL_law 246 = .ok (.iload 5, 2) := by decide +kernel
theorem dL_law_248 : decode cL_law 248 = .ok (.iconst 3, 1) := by decide +kernel
theorem dL_law_249 : decode cL_law 249 = .ok (.iadd, 1) := by decide +kernel
theorem dL_law_250 : decode cL_law 250 = .ok (.iaload, 1) := by decide +kernel
theorem dL_law_251 : decode cL_law 251 = .ok (.aload_n 3, 1) := by decide +kernel
theorem dL_law_252 : decode cL_law 252 = .ok (.invokestatic 141, 3) := by decide +kernel
theorem dL_law_255 : decode cL_law 255 = .ok (.istore 6, 2) := by decide +kernel
theorem dL_law_257 : decode cL_law 257 = .ok (.aload_n 2, 1) := by decide +kernel
theorem dL_law_258 : decode cL_law 258 = .ok (.aload_n 0, 1) := by decide +kernel
theorem dL_law_259 : decode cL_law 259 = .ok (.iload 5, 2) := by decide +kernel
theorem dL_law_261 : decode cL_law 261 = .ok (.iconst 1, 1) := by decide +kernel
theorem dL_law_262 : decode cL_law 262 = .ok (.iadd, 1) := by decide +kernel
theorem dL_law_263 : decode cL_law 263 = .ok (.iaload, 1) := by decide +kernel
theorem dL_law_264 : decode cL_law 264 = .ok (.aload_n 0, 1) := by decide +kernel
theorem dL_law_265 : decode cL_law 265 = .ok (.iload 5, 2) := by decide +kernel
theorem dL_law_267 : decode cL_law 267 = .ok (.iconst 2, 1) := by decide +kernel
theorem dL_law_268 : decode cL_law 268 = .ok (.iadd, 1) := by decide +kernel
theorem dL_law_269 : decode cL_law 269 = .ok (.iaload, 1) := by decide +kernel
theorem dL_law_270 : decode cL_law 270 = .ok (.aload_n 0, 1) := by decide +kernel
theorem dL_law_271 : decode cL_law 271 = .ok (.iload 5, 2) := by decide +kernel
theorem dL_law_273 : decode cL_law 273 = .ok (.iconst 3, 1) := by decide +kernel
theorem dL_law_274 : decode cL_law 274 = .ok (.iadd, 1) := by decide +kernel
theorem dL_law_275 : decode cL_law 275 = .ok (.iaload, 1) := by decide +kernel
theorem dL_law_276 : decode cL_law 276 = .ok (.invokevirtual 146, 3) := by decide +kernel
theorem dL_law_279 : decode cL_law 279 = .ok (.istore 7, 2) := by decide +kernel
theorem dL_law_281 : decode cL_law 281 = .ok (.aload_n 2, 1) := by decide +kernel
theorem dL_law_282 : decode cL_law 282 = .ok (.invokevirtual 147, 3) := by decide +kernel
theorem dL_law_285 : decode cL_law 285 = .ok (.iload 6, 2) := by decide +kernel
theorem dL_law_287 : decode cL_law 287 = .ok (.if_icmp .eq 5, 3) := by decide +kernel
theorem dL_law_290 : decode cL_law 290 = .ok (.iconst 0, 1) := by decide +kernel
theorem dL_law_291 : decode cL_law 291 = .ok (.ireturn, 1) := by decide +kernel
theorem dL_law_292 : decode cL_law 292 = .ok (.iload 6, 2) := by decide +kernel
theorem dL_law_294 : decode cL_law 294 = .ok (.ifCond .ne 15, 3) := by decide +kernel
theorem dL_law_297 : decode cL_law 297 = .ok (.aload_n 3, 1) := by decide +kernel
theorem dL_law_298 : decode cL_law 298 = .ok (.iconst 0, 1) := by decide +kernel
theorem dL_law_299 : decode cL_law 299 = .ok (.laload, 1) := by decide +kernel
theorem dL_law_300 : decode cL_law 300 = .ok (.iload 7, 2) := by decide +kernel
theorem dL_law_302 : decode cL_law 302 = .ok (.i2l, 1) := by decide +kernel
theorem dL_law_303 : decode cL_law 303 = .ok (.lcmp, 1) := by decide +kernel
theorem dL_law_304 : decode cL_law 304 = .ok (.ifCond .eq 5, 3) := by decide +kernel
theorem dL_law_307 : decode cL_law 307 = .ok (.iconst 0, 1) := by decide +kernel
theorem dL_law_308 : decode cL_law 308 = .ok (.ireturn, 1) := by decide +kernel
theorem dL_law_309 : decode cL_law 309 = .ok (.goto 2503, 3) := by decide +kernel
theorem dL_law_312 : decode cL_law 312 = .ok (.aload_n 1, 1) := by decide +kernel
theorem dL_law_313 : decode cL_law 313 = .ok (.aload_n 0, 1) := by decide +kernel
theorem dL_law_314 : decode cL_law 314 = .ok (.iload 5, 2) := by decide +kernel
theorem dL_law_316 : decode cL_law 316 = .ok (.iconst 1, 1) := by decide +kernel
theorem dL_law_317 : decode cL_law 317 = .ok (.iadd, 1) := by decide +kernel
theorem dL_law_318 : decode cL_law 318 = .ok (.iaload, 1) := by decide +kernel
theorem dL_law_319 : decode cL_law 319 = .ok (.aload_n 0, 1) := by decide +kernel
theorem dL_law_320 : decode cL_law 320 = .ok (.iload 5, 2) := by decide +kernel
theorem dL_law_322 : decode cL_law 322 = .ok (.iconst 2, 1) := by decide +kernel
theorem dL_law_323 : decode cL_law 323 = .ok (.iadd, 1) := by decide +kernel
theorem dL_law_324 : decode cL_law 324 = .ok (.iaload, 1) := by decide +kernel
theorem dL_law_325 : decode cL_law 325 = .ok (.aload_n 0, 1) := by decide +kernel
theorem dL_law_326 : decode cL_law 326 = .ok (.iload 5, 2) := by decide +kernel
theorem dL_law_328 : decode cL_law 328 = .ok (.iconst 3, 1) := by decide +kernel
theorem dL_law_329 : decode cL_law 329 = .ok (.iadd, 1) := by decide +kernel
theorem dL_law_330 : decode cL_law 330 = .ok (.iaload, 1) := by decide +kernel
theorem dL_law_331 : decode cL_law 331 = .ok (.aload_n 0, 1) := by decide +kernel
theorem dL_law_332 : decode cL_law 332 = .ok (.iload 5, 2) := by decide +kernel
theorem dL_law_334 : decode cL_law 334 = .ok (.iconst 4, 1) := by decide +kernel
theorem dL_law_335 : decode cL_law 335 = .ok (.iadd, 1) := by decide +kernel
theorem dL_law_336 : decode cL_law 336 = .ok (.iaload, 1) := by decide +kernel
theorem dL_law_337 : decode cL_law 337 = .ok (.aload_n 3, 1) := by decide +kernel
theorem dL_law_338 : decode cL_law 338 = .ok (.invokestatic 150, 3) := by decide +kernel
theorem dL_law_341 : decode cL_law 341 = .ok (.istore 6, 2) := by decide +kernel
theorem dL_law_343 : decode cL_law 343 = .ok (.aload_n 2, 1) := by decide +kernel
theorem dL_law_344 : decode cL_law 344 = .ok (.aload_n 0, 1) := by decide +kernel
theorem dL_law_345 : decode cL_law 345 = .ok (.iload 5, 2) := by decide +kernel
theorem dL_law_347 : decode cL_law 347 = .ok (.iconst 1, 1) := by decide +kernel
theorem dL_law_348 : decode cL_law 348 = .ok (.iadd, 1) := by decide +kernel
theorem dL_law_349 : decode cL_law 349 = .ok (.iaload, 1) := by decide +kernel
theorem dL_law_350 : decode cL_law 350 = .ok (.aload_n 0, 1) := by decide +kernel
theorem dL_law_351 : decode cL_law 351 = .ok (.iload 5, 2) := by decide +kernel
theorem dL_law_353 : decode cL_law 353 = .ok (.iconst 2, 1) := by decide +kernel
theorem dL_law_354 : decode cL_law 354 = .ok (.iadd, 1) := by decide +kernel
theorem dL_law_355 : decode cL_law 355 = .ok (.iaload, 1) := by decide +kernel
theorem dL_law_356 : decode cL_law 356 = .ok (.aload_n 0, 1) := by decide +kernel
theorem dL_law_357 : decode cL_law 357 = .ok (.iload 5, 2) := by decide +kernel
theorem dL_law_359 : decode cL_law 359 = .ok (.iconst 3, 1) := by decide +kernel
theorem dL_law_360 : decode cL_law 360 = .ok (.iadd, 1) := by decide +kernel
theorem dL_law_361 : decode cL_law 361 = .ok (.iaload, 1) := by decide +kernel
theorem dL_law_362 : decode cL_law 362 = .ok (.aload_n 0, 1) := by decide +kernel
theorem dL_law_363 : decode cL_law 363 = .ok (.iload 5, 2) := by decide +kernel
theorem dL_law_365 : decode cL_law 365 = .ok (.iconst 4, 1) := by decide +kernel
theorem dL_law_366 : decode cL_law 366 = .ok (.iadd, 1) := by decide +kernel
theorem dL_law_367 : decode cL_law 367 = .ok (.iaload, 1) := by decide +kernel
theorem dL_law_368 : decode cL_law 368 = .ok (.invokevirtual 153, 3) := by decide +kernel
theorem dL_law_371 : decode cL_law 371 = .ok (.istore 7, 2) := by decide +kernel
theorem dL_law_373 : decode cL_law 373 = .ok (.aload_n 2, 1) := by decide +kernel
theorem dL_law_374 : decode cL_law 374 = .ok (.invokevirtual 147, 3) := by decide +kernel
theorem dL_law_377 : decode cL_law 377 = .ok (.iload 6, 2) := by decide +kernel
theorem dL_law_379 : decode cL_law 379 = .ok (.if_icmp .eq 5, 3) := by decide +kernel
theorem dL_law_382 : decode cL_law 382 = .ok (.iconst 0, 1) := by decide +kernel
theorem dL_law_383 : decode cL_law 383 = .ok (.ireturn, 1) := by decide +kernel
theorem dL_law_384 : decode cL_law 384 = .ok (.iload 6, 2) := by decide +kernel
theorem dL_law_386 : decode cL_law 386 = .ok (.ifCond .ne 15, 3) := by decide +kernel
theorem dL_law_389 : decode cL_law 389 = .ok (.aload_n 3, 1) := by decide +kernel
theorem dL_law_390 : decode cL_law 390 = .ok (.iconst 0, 1) := by decide +kernel
theorem dL_law_391 : decode cL_law 391 = .ok (.laload, 1) := by decide +kernel
theorem dL_law_392 : decode cL_law 392 = .ok (.iload 7, 2) := by decide +kernel
theorem dL_law_394 : decode cL_law 394 = .ok (.i2l, 1) := by decide +kernel
theorem dL_law_395 : decode cL_law 395 = .ok (.lcmp, 1) := by decide +kernel
theorem dL_law_396 : decode cL_law 396 = .ok (.ifCond .eq 5, 3) := by decide +kernel
theorem dL_law_399 : decode cL_law 399 = .ok (.iconst 0, 1) := by decide +kernel
theorem dL_law_400 : decode cL_law 400 = .ok (.ireturn, 1) := by decide +kernel
theorem dL_law_401 : decode cL_law 401 = .ok (.goto 2411, 3) := by decide +kernel
theorem dL_law_404 : decode cL_law 404 = .ok (.aload_n 1, 1) := by decide +kernel
theorem dL_law_405 : decode cL_law 405 = .ok (.aload_n 0, 1) := by decide +kernel
theorem dL_law_406 : decode cL_law 406 = .ok (.iload 5, 2) := by decide +kernel
theorem dL_law_408 : decode cL_law 408 = .ok (.iconst 1, 1) := by decide +kernel
theorem dL_law_409 : decode cL_law 409 = .ok (.iadd, 1) := by decide +kernel
theorem dL_law_410 : decode cL_law 410 = .ok (.iaload, 1) := by decide +kernel
theorem dL_law_411 : decode cL_law 411 = .ok (.aload_n 0, 1) := by decide +kernel
theorem dL_law_412 : decode cL_law 412 = .ok (.iload 5, 2) := by decide +kernel
theorem dL_law_414 : decode cL_law 414 = .ok (.iconst 2, 1) := by decide +kernel
theorem dL_law_415 : decode cL_law 415 = .ok (.iadd, 1) := by decide +kernel
theorem dL_law_416 : decode cL_law 416 = .ok (.iaload, 1) := by decide +kernel
theorem dL_law_417 : decode cL_law 417 = .ok (.aload_n 0, 1) := by decide +kernel
theorem dL_law_418 : decode cL_law 418 = .ok (.iload 5, 2) := by decide +kernel
theorem dL_law_420 : decode cL_law 420 = .ok (.iconst 3, 1) := by decide +kernel
theorem dL_law_421 : decode cL_law 421 = .ok (.iadd, 1) := by decide +kernel
theorem dL_law_422 : decode cL_law 422 = .ok (.iaload, 1) := by decide +kernel
theorem dL_law_423 : decode cL_law 423 = .ok (.aload_n 0, 1) := by decide +kernel
