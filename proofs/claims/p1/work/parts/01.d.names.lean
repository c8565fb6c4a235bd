theorem dX7_empty_1 : decode cX7_empty 1 = .ok (.iconst 0, 1) := by decide +kernel
theorem dX7_empty_2 : decode cX7_empty 2 = .ok (.putfield 21, 3) := by decide +kernel
theorem dX7_empty_5 : decode cX7_empty 5 = .ok (.aload_n 0, 1) := by decide +kernel
theorem dX7_empty_6 : decode cX7_empty 6 = .ok (.iconst 0, 1) := by decide +kernel
theorem dX7_empty_7 : decode cX7_empty 7 = .ok (.putfield 25, 3) := by decide +kernel
theorem dX7_empty_10 : decode cX7_empty 10 = .ok (.return_, 1) := by decide +kernel
theorem dX7_openRun_0 : decode cX7_openRun 0 = .ok (.aload_n 0, 1) := by decide +kernel
theorem dX7_openRun_1 : decode cX7_openRun 1 = .ok (.getfield 21, 3) := by decide +kernel
theorem dX7_openRun_4 : decode cX7_openRun 4 = .ok (.ifCond .lt 46, 3) := by decide +kernel
theorem dX7_openRun_7 : decode cX7_openRun 7 = .ok (.aload_n 0, 1) := by decide +kernel
theorem dX7_openRun_8 : decode cX7_openRun 8 = .ok (.getfield 21, 3) := by decide +kernel
theorem dX7_openRun_11 : decode cX7_openRun 11 = .ok (.sipush 200, 3) := by decide +kernel
theorem dX7_openRun_14 : decode cX7_openRun 14 = .ok (.if_icmp .ge 36, 3) := by decide +kernel
theorem dX7_openRun_17 : decode cX7_openRun 17 = .ok (.aload_n 0, 1) := by decide +kernel
theorem dX7_openRun_18 : decode cX7_openRun 18 = .ok (.getfield 15, 3) := by decide +kernel
theorem dX7_openRun_21 : decode cX7_openRun 21 = .ok (.aload_n 0, 1) := by decide +kernel
theorem dX7_openRun_22 : decode cX7_openRun 22 = .ok (.getfield 21, 3) := by decide +kernel
theorem dX7_openRun_25 : decode cX7_openRun 25 = .ok (.aload_n 0, 1) := by decide +kernel
theorem dX7_openRun_26 : decode cX7_openRun 26 = .ok (.getfield 25, 3) := by decide +kernel
theorem dX7_openRun_29 : decode cX7_openRun 29 = .ok (.iastore, 1) := by decide +kernel
theorem dX7_openRun_30 : decode cX7_openRun 30 = .ok (.aload_n 0, 1) := by decide +kernel
theorem dX7_openRun_31 : decode cX7_openRun 31 = .ok (.getfield 18, 3) := by decide +kernel
theorem dX7_openRun_34 : decode cX7_openRun 34 = .ok (.aload_n 0, 1) := by decide +kernel
theorem dX7_openRun_35 : decode cX7_openRun 35 = .ok (.getfield 21, 3) := by decide +kernel
theorem dX7_openRun_38 : decode cX7_openRun 38 = .ok (.iconst 0, 1) := by decide +kernel
theorem dX7_openRun_39 : decode cX7_openRun 39 = .ok (.iastore, 1) := by decide +kernel
theorem dX7_openRun_40 : decode cX7_openRun 40 = .ok (.aload_n 0, 1) := by decide +kernel
theorem dX7_openRun_41 : decode cX7_openRun 41 = .ok (.dup, 1) := by decide +kernel
theorem dX7_openRun_42 : decode cX7_openRun 42 = .ok (.getfield 21, 3) := by decide +kernel
theorem dX7_openRun_45 : decode cX7_openRun 45 = .ok (.iconst 1, 1) := by decide +kernel
theorem dX7_openRun_46 : decode cX7_openRun 46 = .ok (.iadd, 1) := by decide +kernel
theorem dX7_openRun_47 : decode cX7_openRun 47 = .ok (.putfield 21, 3) := by decide +kernel
theorem dX7_openRun_50 : decode cX7_openRun 50 = .ok (.return_, 1) := by decide +kernel
theorem dX7_add_0 : decode cX7_add 0 = .ok (.aload_n 0, 1) := by decide +kernel
theorem dX7_add_1 : decode cX7_add 1 = .ok (.getfield 21, 3) := by decide +kernel
theorem dX7_add_4 : decode cX7_add 4 = .ok (.ifCond .le 64, 3) := by decide +kernel
theorem dX7_add_7 : decode cX7_add 7 = .ok (.aload_n 0, 1) := by decide +kernel
theorem dX7_add_8 : decode cX7_add 8 = .ok (.getfield 21, 3) := by decide +kernel
theorem dX7_add_11 : decode cX7_add 11 = .ok (.sipush 200, 3) := by decide +kernel
theorem dX7_add_14 : decode cX7_add 14 = .ok (.if_icmp .gt 54, 3) := by decide +kernel
theorem dX7_add_17 : decode cX7_add 17 = .ok (.aload_n 0, 1) := by decide +kernel
theorem dX7_add_18 : decode cX7_add 18 = .ok (.getfield 25, 3) := by decide +kernel
theorem dX7_add_21 : decode cX7_add 21 = .ok (.ifCond .lt 47, 3) := by decide +kernel
theorem dX7_add_24 : decode cX7_add 24 = .ok (.aload_n 0, 1) := by decide +kernel
theorem dX7_add_25 : decode cX7_add 25 = .ok (.getfield 25, 3) := by decide +kernel
theorem dX7_add_28 : decode cX7_add 28 = .ok (.bipush 100, 2) := by decide +kernel
theorem dX7_add_30 : decode cX7_add 30 = .ok (.if_icmp .ge 38, 3) := by decide +kernel
theorem dX7_add_33 : decode cX7_add 33 = .ok (.aload_n 0, 1) := by decide +kernel
theorem dX7_add_34 : decode cX7_add 34 = .ok (.getfield 9, 3) := by decide +kernel
theorem dX7_add_37 : decode cX7_add 37 = .ok (.aload_n 0, 1) := by decide +kernel
theorem dX7_add_38 : decode cX7_add 38 = .ok (.getfield 25, 3) := by decide +kernel
theorem dX7_add_41 : decode cX7_add 41 = .ok (.iload_n 1, 1) := by decide +kernel
theorem dX7_add_42 : decode cX7_add 42 = .ok (.iastore, 1) := by decide +kernel
theorem dX7_add_43 : decode cX7_add 43 = .ok (.aload_n 0, 1) := by decide +kernel
theorem dX7_add_44 : decode cX7_add 44 = .ok (.dup, 1) := by decide +kernel
theorem dX7_add_45 : decode cX7_add 45 = .ok (.getfield 25, 3) := by decide +kernel
theorem dX7_add_48 : decode cX7_add 48 = .ok (.iconst 1, 1) := by decide +kernel
theorem dX7_add_49 : decode cX7_add 49 = .ok (.iadd, 1) := by decide +kernel
theorem dX7_add_50 : decode cX7_add 50 = .ok (.putfield 25, 3) := by decide +kernel
theorem dX7_add_53 : decode cX7_add 53 = .ok (.aload_n 0, 1) := by decide +kernel
theorem dX7_add_54 : decode cX7_add 54 = .ok (.getfield 18, 3) := by decide +kernel
theorem dX7_add_57 : decode cX7_add 57 = .ok (.aload_n 0, 1) := by decide +kernel
theorem dX7_add_58 : decode cX7_add 58 = .ok (.getfield 21, 3) := by decide +kernel
theorem dX7_add_61 : decode cX7_add 61 = .ok (.iconst 1, 1) := by decide +kernel
theorem dX7_add_62 : decode cX7_add 62 = .ok (.isub, 1) := by decide +kernel
theorem dX7_add_63 : decode cX7_add 63 = .ok (.dup2, 1) := by decide +kernel
theorem dX7_add_64 : decode cX7_add 64 = .ok (.iaload, 1) := by decide +kernel
theorem dX7_add_65 : decode cX7_add 65 = .ok (.iconst 1, 1) := by decide +kernel
theorem dX7_add_66 : decode cX7_add 66 = .ok (.iadd, 1) := by decide +kernel
theorem dX7_add_67 : decode cX7_add 67 = .ok (.iastore, 1) := by decide +kernel
theorem dX7_add_68 : decode cX7_add 68 = .ok (.return_, 1) := by decide +kernel
theorem dX7_addRunOf_0 : decode cX7_addRunOf 0 = .ok (.iload_n 2, 1) := by decide +kernel
theorem dX7_addRunOf_1 : decode cX7_addRunOf 1 = .ok (.ifCond .lt 27, 3) := by decide +kernel
theorem dX7_addRunOf_4 : decode cX7_addRunOf 4 = .ok (.iload_n 2, 1) := by decide +kernel
theorem dX7_addRunOf_5 : decode cX7_addRunOf 5 = .ok (.sipush 200, 3) := by decide +kernel
theorem dX7_addRunOf_8 : decode cX7_addRunOf 8 = .ok (.if_icmp .ge 20, 3) := by decide +kernel
theorem dX7_addRunOf_11 : decode cX7_addRunOf 11 = .ok (.aload_n 0, 1) := by decide +kernel
theorem dX7_addRunOf_12 : decode cX7_addRunOf 12 = .ok (.getfield 21, 3) := by decide +kernel
theorem dX7_addRunOf_15 : decode cX7_addRunOf 15 = .ok (.ifCond .lt 13, 3) := by decide +kernel
theorem dX7_addRunOf_18 : decode cX7_addRunOf 18 = .ok (.aload_n 0, 1) := by decide +kernel
theorem dX7_addRunOf_19 : decode cX7_addRunOf 19 = .ok (.getfield 21, 3) := by decide +kernel
theorem dX7_addRunOf_22 : decode cX7_addRunOf 22 = .ok (.sipush 200, 3) := by decide +kernel
theorem dX7_addRunOf_25 : decode cX7_addRunOf 25 = .ok (.if_icmp .lt 4, 3) := by decide +kernel
theorem dX7_addRunOf_28 : decode cX7_addRunOf 28 = .ok (.return_, 1) := by decide +kernel
theorem dX7_addRunOf_29 : decode cX7_addRunOf 29 = .ok (.aload_n 1, 1) := by decide +kernel
theorem dX7_addRunOf_30 : decode cX7_addRunOf 30 = .ok (.getfield 18, 3) := by decide +kernel
theorem dX7_addRunOf_33 : decode cX7_addRunOf 33 = .ok (.iload_n 2, 1) := by decide +kernel
theorem dX7_addRunOf_34 : decode cX7_addRunOf 34 = .ok (.iaload, 1) := by decide +kernel
theorem dX7_addRunOf_35 : decode cX7_addRunOf 35 = .ok (.istore_n 3, 1) := by decide +kernel
theorem dX7_addRunOf_36 : decode cX7_addRunOf 36 = .ok (.aload_n 1, 1) := by decide +kernel
theorem dX7_addRunOf_37 : decode cX7_addRunOf 37 = .ok (.getfield 15, 3) := by decide +kernel
theorem dX7_addRunOf_40 : decode cX7_addRunOf 40 = .ok (.iload_n 2, 1) := by decide +kernel
theorem dX7_addRunOf_41 : decode cX7_addRunOf 41 = .ok (.iaload, 1) := by decide +kernel
theorem dX7_addRunOf_42 : decode cX7_addRunOf 42 = .ok (.istore 4, 2) := by decide +kernel
theorem dX7_addRunOf_44 : decode cX7_addRunOf 44 = .ok (.iload 4, 2) := by decide +kernel
theorem dX7_addRunOf_46 : decode cX7_addRunOf 46 = .ok (.ifCond .lt 30, 3) := by decide +kernel
theorem dX7_addRunOf_49 : decode cX7_addRunOf 49 = .ok (.aload_n 0, 1) := by decide +kernel
theorem dX7_addRunOf_50 : decode cX7_addRunOf 50 = .ok (.getfield 25, 3) := by decide +kernel
theorem dX7_addRunOf_53 : decode cX7_addRunOf 53 = .ok (.ifCond .lt 23, 3) := by decide +kernel
theorem dX7_addRunOf_56 : decode cX7_addRunOf 56 = .ok (.iload 4, 2) := by decide +kernel
theorem dX7_addRunOf_58 : decode cX7_addRunOf 58 = .ok (.iload_n 3, 1) := by decide +kernel
theorem dX7_addRunOf_59 : decode cX7_addRunOf 59 = .ok (.iadd, 1) := by decide +kernel
theorem dX7_addRunOf_60 : decode cX7_addRunOf 60 = .ok (.bipush 100, 2) := by decide +kernel
theorem dX7_addRunOf_62 : decode cX7_addRunOf 62 = .ok (.if_icmp .gt 14, 3) := by decide +kernel
theorem dX7_addRunOf_65 : decode cX7_addRunOf 65 = .ok (.aload_n 0, 1) := by decide +kernel
theorem dX7_addRunOf_66 : decode cX7_addRunOf 66 = .ok (.getfield 25, 3) := by decide +kernel
theorem dX7_addRunOf_69 : decode cX7_addRunOf 69 = .ok (.iload_n 3, 1) := by decide +kernel
theorem dX7_addRunOf_70 : decode cX7_addRunOf 70 = .ok (.iadd, 1) := by decide +kernel
theorem dX7_addRunOf_71 : decode cX7_addRunOf 71 = .ok (.bipush 100, 2) := by decide +kernel
theorem dX7_addRunOf_73 : decode cX7_addRunOf 73 = .ok (.if_icmp .le 4, 3) := by decide +kernel
theorem dX7_addRunOf_76 : decode cX7_addRunOf 76 = .ok (.return_, 1) := by decide +kernel
theorem dX7_addRunOf_77 : decode cX7_addRunOf 77 = .ok (.aload_n 0, 1) := by decide +kernel
theorem dX7_addRunOf_78 : decode cX7_addRunOf 78 = .ok (.getfield 15, 3) := by decide +kernel
theorem dX7_addRunOf_81 : decode cX7_addRunOf 81 = .ok (.aload_n 0, 1) := by decide +kernel
theorem dX7_addRunOf_82 : decode cX7_addRunOf 82 = .ok (.getfield 21, 3) := by decide +kernel
theorem dX7_addRunOf_85 : decode cX7_addRunOf 85 = .ok (.aload_n 0, 1) := by decide +kernel
theorem dX7_addRunOf_86 : decode cX7_addRunOf 86 = .ok (.getfield 25, 3) := by decide +kernel
theorem dX7_addRunOf_89 : decode cX7_addRunOf 89 = .ok (.iastore, 1) := by decide +kernel
theorem dX7_addRunOf_90 : decode cX7_addRunOf 90 = .ok (.aload_n 0, 1) := by decide +kernel
theorem dX7_addRunOf_91 : decode cX7_addRunOf 91 = .ok (.getfield 18, 3) := by decide +kernel
theorem dX7_addRunOf_94 : decode cX7_addRunOf 94 = .ok (.aload_n 0, 1) := by decide +kernel
theorem dX7_addRunOf_95 : decode cX7_addRunOf 95 = .ok (.getfield 21, 3) := by decide +kernel
theorem dX7_addRunOf_98 : decode cX7_addRunOf 98 = .ok (.iload_n 3, 1) := by decide +kernel
theorem dX7_addRunOf_99 : decode cX7_addRunOf 99 = .ok (.iastore, 1) := by decide +kernel
theorem dX7_addRunOf_100 : decode cX7_addRunOf 100 = .ok (.aload_n 0, 1) := by decide +kernel
theorem dX7_addRunOf_101 : decode cX7_addRunOf 101 = .ok (.dup, 1) := by decide +kernel
theorem dX7_addRunOf_102 : decode cX7_addRunOf 102 = .ok (.getfield 21, 3) := by decide +kernel
theorem dX7_addRunOf_105 : decode cX7_addRunOf 105 = .ok (.iconst 1, 1) := by decide +kernel
theorem dX7_addRunOf_106 : decode cX7_addRunOf 106 = .ok (.iadd, 1) := by decide +kernel
theorem dX7_addRunOf_107 : decode cX7_addRunOf 107 = .ok (.putfield 21, 3) := by decide +kernel
theorem dX7_addRunOf_110 : decode cX7_addRunOf 110 = .ok (.iconst 0, 1) := by decide +kernel
theorem dX7_addRunOf_111 : decode cX7_addRunOf 111 = .ok (.istore 5, 2) := by decide +kernel
theorem dX7_addRunOf_113 : decode cX7_addRunOf 113 = .ok (.iload 5, 2) := by decide +kernel
theorem dX7_addRunOf_115 : decode cX7_addRunOf 115 = .ok (.iload_n 3, 1) := by decide +kernel
theorem dX7_addRunOf_116 : decode cX7_addRunOf 116 = .ok (.if_icmp .ge 31, 3) := by decide +kernel
theorem dX7_addRunOf_119 : decode cX7_addRunOf 119 = .ok (.aload_n 0, 1) := by decide +kernel
theorem dX7_addRunOf_120 : decode cX7_addRunOf 120 = .ok (.getfield 9, 3) := by decide +kernel
theorem dX7_addRunOf_123 : decode cX7_addRunOf 123 = .ok (.aload_n 0, 1) := by decide +kernel
theorem dX7_addRunOf_124 : decode cX7_addRunOf 124 = .ok (.getfield 25, 3) := by decide +kernel
theorem dX7_addRunOf_127 : decode cX7_addRunOf 127 = .ok (.iload 5, 2) := by decide +kernel
theorem dX7_addRunOf_129 : decode cX7_addRunOf 129 = .ok (.iadd, 1) := by decide +kernel
theorem dX7_addRunOf_130 : decode cX7_addRunOf 130 = .ok (.aload_n 1, 1) := by decide +kernel
theorem dX7_addRunOf_131 : decode cX7_addRunOf 131 = .ok (.getfield 9, 3) := by decide +kernel
theorem dX7_addRunOf_134 : decode cX7_addRunOf 134 = .ok (.iload 4, 2) := by decide +kernel
theorem dX7_addRunOf_136 : decode cX7_addRunOf 136 = .ok (.iload 5, 2) := by decide +kernel
theorem dX7_addRunOf_138 : decode cX7_addRunOf 138 = .ok (.iadd, 1) := by decide +kernel
theorem dX7_addRunOf_139 : decode cX7_addRunOf 139 = .ok (.iaload, 1) := by decide +kernel
theorem dX7_addRunOf_140 : decode cX7_addRunOf 140 = .ok (.iastore, 1) := by decide +kernel
theorem dX7_addRunOf_141 : decode cX7_addRunOf 141 = .ok (.iinc 5 1, 3) := by decide +kernel
theorem dX7_addRunOf_144 : decode cX7_addRunOf 144 = .ok (.goto (-31), 3) := by decide +kernel
theorem dX7_addRunOf_147 : decode cX7_addRunOf 147 = .ok (.aload_n 0, 1) := by decide +kernel
theorem dX7_addRunOf_148 : decode cX7_addRunOf 148 = .ok (.dup, 1) := by decide +kernel
theorem dX7_addRunOf_149 : decode cX7_addRunOf 149 = .ok (.getfield 25, 3) := by decide +kernel
theorem dX7_addRunOf_152 : decode cX7_addRunOf 152 = .ok (.iload_n 3, 1) := by decide +kernel
theorem dX7_addRunOf_153 : decode cX7_addRunOf 153 = .ok (.iadd, 1) := by decide +kernel
theorem dX7_addRunOf_154 : decode cX7_addRunOf 154 = .ok (.putfield 25, 3) := by decide +kernel
theorem dX7_addRunOf_157 : decode cX7_addRunOf 157 = .ok (.return_, 1) := by decide +kernel
theorem dX7_lengthOf_0 : decode cX7_lengthOf 0 = .ok (.iload_n 1, 1) := by decide +kernel
theorem dX7_lengthOf_1 : decode cX7_lengthOf 1 = .ok (.ifCond .lt 27, 3) := by decide +kernel
theorem dX7_lengthOf_4 : decode cX7_lengthOf 4 = .ok (.iload_n 1, 1) := by decide +kernel
theorem dX7_lengthOf_5 : decode cX7_lengthOf 5 = .ok (.aload_n 0, 1) := by decide +kernel
theorem dX7_lengthOf_6 : decode cX7_lengthOf 6 = .ok (.getfield 21, 3) := by decide +kernel
theorem dX7_lengthOf_9 : decode cX7_lengthOf 9 = .ok (.if_icmp .ge 19, 3) := by decide +kernel
theorem dX7_lengthOf_12 : decode cX7_lengthOf 12 = .ok (.iload_n 1, 1) := by decide +kernel
theorem dX7_lengthOf_13 : decode cX7_lengthOf 13 = .ok (.sipush 200, 3) := by decide +kernel
theorem dX7_lengthOf_16 : decode cX7_lengthOf 16 = .ok (.if_icmp .ge 12, 3) := by decide +kernel
theorem dX7_lengthOf_19 : decode cX7_lengthOf 19 = .ok (.aload_n 0, 1) := by decide +kernel
theorem dX7_lengthOf_20 : decode cX7_lengthOf 20 = .ok (.getfield 18, 3) := by decide +kernel
theorem dX7_lengthOf_23 : decode cX7_lengthOf 23 = .ok (.iload_n 1, 1) := by decide +kernel
theorem dX7_lengthOf_24 : decode cX7_lengthOf 24 = .ok (.iaload, 1) := by decide +kernel
theorem dX7_lengthOf_25 : decode cX7_lengthOf 25 = .ok (.goto 4, 3) := by decide +kernel
theorem dX7_lengthOf_28 : decode cX7_lengthOf 28 = .ok (.iconst 0, 1) := by decide +kernel
theorem dX7_lengthOf_29 : decode cX7_lengthOf 29 = .ok (.ireturn, 1) := by decide +kernel
theorem dX7_rankAt_0 : decode cX7_rankAt 0 = .ok (.iload_n 1, 1) := by decide +kernel
theorem dX7_rankAt_1 : decode cX7_rankAt 1 = .ok (.ifCond .lt 32, 3) := by decide +kernel
theorem dX7_rankAt_4 : decode cX7_rankAt 4 = .ok (.iload_n 1, 1) := by decide +kernel
theorem dX7_rankAt_5 : decode cX7_rankAt 5 = .ok (.aload_n 0, 1) := by decide +kernel
theorem dX7_rankAt_6 : decode cX7_rankAt 6 = .ok (.getfield 21, 3) := by decide +kernel
theorem dX7_rankAt_9 : decode cX7_rankAt 9 = .ok (.if_icmp .ge 24, 3) := by decide +kernel
theorem dX7_rankAt_12 : decode cX7_rankAt 12 = .ok (.iload_n 1, 1) := by decide +kernel
theorem dX7_rankAt_13 : decode cX7_rankAt 13 = .ok (.sipush 200, 3) := by decide +kernel
theorem dX7_rankAt_16 : decode cX7_rankAt 16 = .ok (.if_icmp .ge 17, 3) := by decide +kernel
theorem dX7_rankAt_19 : decode cX7_rankAt 19 = .ok (.iload_n 2, 1) := by decide +kernel
theorem dX7_rankAt_20 : decode cX7_rankAt 20 = .ok (.ifCond .lt 13, 3) := by decide +kernel
theorem dX7_rankAt_23 : decode cX7_rankAt 23 = .ok (.iload_n 2, 1) := by decide +kernel
theorem dX7_rankAt_24 : decode cX7_rankAt 24 = .ok (.aload_n 0, 1) := by decide +kernel
theorem dX7_rankAt_25 : decode cX7_rankAt 25 = .ok (.getfield 18, 3) := by decide +kernel
theorem dX7_rankAt_28 : decode cX7_rankAt 28 = .ok (.iload_n 1, 1) := by decide +kernel
theorem dX7_rankAt_29 : decode cX7_rankAt 29 = .ok (.iaload, 1) := by decide +kernel
theorem dX7_rankAt_30 : decode cX7_rankAt 30 = .ok (.if_icmp .lt 5, 3) := by decide +kernel
theorem dX7_rankAt_33 : decode cX7_rankAt 33 = .ok (.iconst 0, 1) := by decide +kernel
theorem dX7_rankAt_34 : decode cX7_rankAt 34 = .ok (.ireturn, 1) := by decide +kernel
theorem dX7_rankAt_35 : decode cX7_rankAt 35 = .ok (.aload_n 0, 1) := by decide +kernel
theorem dX7_rankAt_36 : decode cX7_rankAt 36 = .ok (.getfield 15, 3) := by decide +kernel
theorem dX7_rankAt_39 : decode cX7_rankAt 39 = .ok (.iload_n 1, 1) := by decide +kernel
theorem dX7_rankAt_40 : decode cX7_rankAt 40 = .ok (.iaload, 1) := by decide +kernel
theorem dX7_rankAt_41 : decode cX7_rankAt 41 = .ok (.iload_n 2, 1) := by decide +kernel
theorem dX7_rankAt_42 : decode cX7_rankAt 42 = .ok (.iadd, 1) := by decide +kernel
theorem dX7_rankAt_43 : decode cX7_rankAt 43 = .ok (.istore_n 3, 1) := by decide +kernel
theorem dX7_rankAt_44 : decode cX7_rankAt 44 = .ok (.iload_n 3, 1) := by decide +kernel
theorem dX7_rankAt_45 : decode cX7_rankAt 45 = .ok (.ifCond .lt 18, 3) := by decide +kernel
theorem dX7_rankAt_48 : decode cX7_rankAt 48 = .ok (.iload_n 3, 1) := by decide +kernel
theorem dX7_rankAt_49 : decode cX7_rankAt 49 = .ok (.bipush 100, 2) := by decide +kernel
theorem dX7_rankAt_51 : decode cX7_rankAt 51 = .ok (.if_icmp .ge 12, 3) := by decide +kernel
theorem dX7_rankAt_54 : decode cX7_rankAt 54 = .ok (.aload_n 0, 1) := by decide +kernel
theorem dX7_rankAt_55 : decode cX7_rankAt 55 = .ok (.getfield 9, 3) := by decide +kernel
theorem dX7_rankAt_58 : decode cX7_rankAt 58 = .ok (.iload_n 3, 1) := by decide +kernel
theorem dX7_rankAt_59 : decode cX7_rankAt 59 = .ok (.iaload, 1) := by decide +kernel
theorem dX7_rankAt_60 : decode cX7_rankAt 60 = .ok (.goto 4, 3) := by decide +kernel
theorem dX7_rankAt_63 : decode cX7_rankAt 63 = .ok (.iconst 0, 1) := by decide +kernel
theorem dX7_rankAt_64 : decode cX7_rankAt 64 = .ok (.ireturn, 1) := by decide +kernel
theorem dX8_init_0 : decode cX8_init 0 = .ok (.aload_n 0, 1) := by decide +kernel
theorem dX8_init_1 : decode cX8_init 1 = .ok (.invokespecial 3, 3) := by decide +kernel
theorem dX8_init_4 : decode cX8_init 4 = .ok (.aload_n 0, 1) := by decide +kernel
theorem dX8_init_5 : decode cX8_init 5 = .ok (.iconst 0, 1) := by decide +kernel
theorem dX8_init_6 : decode cX8_init 6 = .ok (.putfield 9, 3) := by decide +kernel
theorem dX8_init_9 : decode cX8_init 9 = .ok (.aload_n 0, 1) := by decide +kernel
theorem dX8_init_10 : decode cX8_init 10 = .ok (.iconst 1, 1) := by decide +kernel
theorem dX8_init_11 : decode cX8_init 11 = .ok (.putfield 15, 3) := by decide +kernel
theorem dX8_init_14 : decode cX8_init 14 = .ok (.aload_n 0, 1) := by decide +kernel
theorem dX8_init_15 : decode cX8_init 15 = .ok (.iconst 4, 1) := by decide +kernel
theorem dX8_init_16 : decode cX8_init 16 = .ok (.putfield 18, 3) := by decide +kernel
theorem dX8_init_19 : decode cX8_init 19 = .ok (.aload_n 0, 1) := by decide +kernel
theorem dX8_init_20 : decode cX8_init 20 = .ok (.iconst 0, 1) := by decide +kernel
theorem dX8_init_21 : decode cX8_init 21 = .ok (.putfield 21, 3) := by decide +kernel
theorem dX8_init_24 : decode cX8_init 24 = .ok (.aload_n 0, 1) := by decide +kernel
theorem dX8_init_25 : decode cX8_init 25 = .ok (.iconst 2, 1) := by decide +kernel
theorem dX8_init_26 : decode cX8_init 26 = .ok (.putfield 24, 3) := by decide +kernel
theorem dX8_init_29 : decode cX8_init 29 = .ok (.return_, 1) := by decide +kernel
theorem dX8_takeOver_0 : decode cX8_takeOver 0 = .ok (.aload_n 0, 1) := by decide +kernel
theorem dX8_takeOver_1 : decode cX8_takeOver 1 = .ok (.aload_n 1, 1) := by decide +kernel
theorem dX8_takeOver_2 : decode cX8_takeOver 2 = .ok (.getfield 9, 3) := by decide +kernel
theorem dX8_takeOver_5 : decode cX8_takeOver 5 = .ok (.putfield 9, 3) := by decide +kernel
theorem dX8_takeOver_8 : decode cX8_takeOver 8 = .ok (.aload_n 0, 1) := by decide +kernel
theorem dX8_takeOver_9 : decode cX8_takeOver 9 = .ok (.aload_n 1, 1) := by decide +kernel
theorem dX8_takeOver_10 : decode cX8_takeOver 10 = .ok (.getfield 15, 3) := by decide +kernel
theorem dX8_takeOver_13 : decode cX8_takeOver 13 = .ok (.putfield 15, 3) := by decide +kernel
theorem dX8_takeOver_16 : decode cX8_takeOver 16 = .ok (.aload_n 0, 1) := by decide +kernel
theorem dX8_takeOver_17 : decode cX8_takeOver 17 = .ok (.aload_n 1, 1) := by decide +kernel
theorem dX8_takeOver_18 : decode cX8_takeOver 18 = .ok (.getfield 18, 3) := by decide +kernel
theorem dX8_takeOver_21 : decode cX8_takeOver 21 = .ok (.putfield 18, 3) := by decide +kernel
theorem dX8_takeOver_24 : decode cX8_takeOver 24 = .ok (.aload_n 0, 1) := by decide +kernel
theorem dX8_takeOver_25 : decode cX8_takeOver 25 = .ok (.aload_n 1, 1) := by decide +kernel
theorem dX8_takeOver_26 : decode cX8_takeOver 26 = .ok (.getfield 21, 3) := by decide +kernel
theorem dX8_takeOver_29 : decode cX8_takeOver 29 = .ok (.putfield 21, 3) := by decide +kernel
theorem dX8_takeOver_32 : decode cX8_takeOver 32 = .ok (.aload_n 0, 1) := by decide +kernel
theorem dX8_takeOver_33 : decode cX8_takeOver 33 = .ok (.aload_n 1, 1) := by decide +kernel
theorem dX8_takeOver_34 : decode cX8_takeOver 34 = .ok (.getfield 24, 3) := by decide +kernel
theorem dX8_takeOver_37 : decode cX8_takeOver 37 = .ok (.putfield 24, 3) := by decide +kernel
theorem dX8_takeOver_40 : decode cX8_takeOver 40 = .ok (.return_, 1) := by decide +kernel
theorem dX9_init_0 : decode cX9_init 0 = .ok (.aload_n 0, 1) := by decide +kernel
theorem dX9_init_1 : decode cX9_init 1 = .ok (.invokespecial 3, 3) := by decide +kernel
theorem dX9_init_4 : decode cX9_init 4 = .ok (.aload_n 0, 1) := by decide +kernel
theorem dX9_init_5 : decode cX9_init 5 = .ok (.bipush 100, 2) := by decide +kernel
theorem dX9_init_7 : decode cX9_init 7 = .ok (.newarray .int, 2) := by decide +kernel
theorem dX9_init_9 : decode cX9_init 9 = .ok (.putfield 9, 3) := by decide +kernel
theorem dX9_init_12 : decode cX9_init 12 = .ok (.aload_n 0, 1) := by decide +kernel
theorem dX9_init_13 : decode cX9_init 13 = .ok (.iconst 0, 1) := by decide +kernel
theorem dX9_init_14 : decode cX9_init 14 = .ok (.putfield 15, 3) := by decide +kernel
theorem dX9_init_17 : decode cX9_init 17 = .ok (.return_, 1) := by decide +kernel
theorem dX9_recordAt_0 : decode cX9_recordAt 0 = .ok (.iload_n 1, 1) := by decide +kernel
theorem dX9_recordAt_1 : decode cX9_recordAt 1 = .ok (.ifCond .lt 26, 3) := by decide +kernel
theorem dX9_recordAt_4 : decode cX9_recordAt 4 = .ok (.iload_n 1, 1) := by decide +kernel
theorem dX9_recordAt_5 : decode cX9_recordAt 5 = .ok (.aload_n 0, 1) := by decide +kernel
theorem dX9_recordAt_6 : decode cX9_recordAt 6 = .ok (.getfield 15, 3) := by decide +kernel
theorem dX9_recordAt_9 : decode cX9_recordAt 9 = .ok (.if_icmp .ge 18, 3) := by decide +kernel
theorem dX9_recordAt_12 : decode cX9_recordAt 12 = .ok (.iload_n 1, 1) := by decide +kernel
theorem dX9_recordAt_13 : decode cX9_recordAt 13 = .ok (.bipush 100, 2) := by decide +kernel
theorem dX9_recordAt_15 : decode cX9_recordAt 15 = .ok (.if_icmp .ge 12, 3) := by decide +kernel
theorem dX9_recordAt_18 : decode cX9_recordAt 18 = .ok (.aload_n 0, 1) := by decide +kernel
theorem dX9_recordAt_19 : decode cX9_recordAt 19 = .ok (.getfield 9, 3) := by decide +kernel
theorem dX9_recordAt_22 : decode cX9_recordAt 22 = .ok (.iload_n 1, 1) := by decide +kernel
theorem dX9_recordAt_23 : decode cX9_recordAt 23 = .ok (.iaload, 1) := by decide +kernel
theorem dX9_recordAt_24 : decode cX9_recordAt 24 = .ok (.goto 4, 3) := by decide +kernel
theorem dX9_recordAt_27 : decode cX9_recordAt 27 = .ok (.iconst (-1), 1) := by decide +kernel
theorem dX9_recordAt_28 : decode cX9_recordAt 28 = .ok (.ireturn, 1) := by decide +kernel
set_option maxRecDepth 20000 in
theorem ggX9_keyAt_X9_recordAt : GoodIn wsX9_keyAt wsX9_recordAt := goodIn_r _ [5, 6, 7, 14, 15] (by decide +kernel) (by decide +kernel)
set_option maxRecDepth 20000 in
theorem gX9_keyAt_X9_recordAt : GoodIn wsX9_keyAt (wsV RX9 19 RX9 yX9_recordAt wsX9_recordAt) := goodIn_app (goodIn_of _ (by decide +kernel)) ggX9_keyAt_X9_recordAt
set_option maxRecDepth 20000 in
theorem ggX9_keyAt_X0_keyOf : GoodIn wsX9_keyAt wsX0_keyOf := goodIn_r _ [12, 13, 16, 17, 18] (by decide +kernel) (by decide +kernel)
set_option maxRecDepth 20000 in
theorem gX9_keyAt_X0_keyOf : GoodIn wsX9_keyAt (wsV RX9 23 RX0 yX0_keyOf wsX0_keyOf) := goodIn_app (goodIn_of _ (by decide +kernel)) ggX9_keyAt_X0_keyOf
theorem dX9_keyAt_0 : decode cX9_keyAt 0 = .ok (.aload_n 1, 1) := by decide +kernel
theorem dX9_keyAt_1 : decode cX9_keyAt 1 = .ok (.aload_n 0, 1) := by decide +kernel
theorem dX9_keyAt_2 : decode cX9_keyAt 2 = .ok (.iload_n 2, 1) := by decide +kernel
theorem dX9_keyAt_3 : decode cX9_keyAt 3 = .ok (.invokevirtual 19, 3) := by decide +kernel
theorem dX9_keyAt_6 : decode cX9_keyAt 6 = .ok (.invokevirtual 23, 3) := by decide +kernel
theorem dX9_keyAt_9 : decode cX9_keyAt 9 = .ok (.ireturn, 1) := by decide +kernel
theorem dX9_empty_0 : decode cX9_empty 0 = .ok (.aload_n 0, 1) := by decide +kernel
theorem dX9_empty_1 : decode cX9_empty 1 = .ok (.iconst 0, 1) := by decide +kernel
theorem dX9_empty_2 : decode cX9_empty 2 = .ok (.putfield 15, 3) := by decide +kernel
theorem dX9_empty_5 : decode cX9_empty 5 = .ok (.return_, 1) := by decide +kernel
theorem dX9_add_0 : decode cX9_add 0 = .ok (.aload_n 0, 1) := by decide +kernel
theorem dX9_add_1 : decode cX9_add 1 = .ok (.getfield 15, 3) := by decide +kernel
theorem dX9_add_4 : decode cX9_add 4 = .ok (.ifCond .lt 32, 3) := by decide +kernel
theorem dX9_add_7 : decode cX9_add 7 = .ok (.aload_n 0, 1) := by decide +kernel
theorem dX9_add_8 : decode cX9_add 8 = .ok (.getfield 15, 3) := by decide +kernel
theorem dX9_add_11 : decode cX9_add 11 = .ok (.bipush 100, 2) := by decide +kernel
theorem dX9_add_13 : decode cX9_add 13 = .ok (.if_icmp .ge 23, 3) := by decide +kernel
theorem dX9_add_16 : decode cX9_add 16 = .ok (.aload_n 0, 1) := by decide +kernel
theorem dX9_add_17 : decode cX9_add 17 = .ok (.getfield 9, 3) := by decide +kernel
theorem dX9_add_20 : decode cX9_add 20 = .ok (.aload_n 0, 1) := by decide +kernel
theorem dX9_add_21 : decode cX9_add 21 = .ok (.getfield 15, 3) := by decide +kernel
theorem dX9_add_24 : decode cX9_add 24 = .ok (.iload_n 1, 1) := by decide +kernel
theorem dX9_add_25 : decode cX9_add 25 = .ok (.iastore, 1) := by decide +kernel
theorem dX9_add_26 : decode cX9_add 26 = .ok (.aload_n 0, 1) := by decide +kernel
theorem dX9_add_27 : decode cX9_add 27 = .ok (.dup, 1) := by decide +kernel
theorem dX9_add_28 : decode cX9_add 28 = .ok (.getfield 15, 3) := by decide +kernel
theorem dX9_add_31 : decode cX9_add 31 = .ok (.iconst 1, 1) := by decide +kernel
theorem dX9_add_32 : decode cX9_add 32 = .ok (.iadd, 1) := by decide +kernel
theorem dX9_add_33 : decode cX9_add 33 = .ok (.putfield 15, 3) := by decide +kernel
theorem dX9_add_36 : decode cX9_add 36 = .ok (.return_, 1) := by decide +kernel
theorem dX9_takeOver_0 : decode cX9_takeOver 0 = .ok (.aload_n 1, 1) := by decide +kernel
theorem dX9_takeOver_1 : decode cX9_takeOver 1 = .ok (.getfield 15, 3) := by decide +kernel
theorem dX9_takeOver_4 : decode cX9_takeOver 4 = .ok (.bipush 100, 2) := by decide +kernel
theorem dX9_takeOver_6 : decode cX9_takeOver 6 = .ok (.invokestatic 28, 3) := by decide +kernel
theorem dX9_takeOver_9 : decode cX9_takeOver 9 = .ok (.istore_n 2, 1) := by decide +kernel
theorem dX9_takeOver_10 : decode cX9_takeOver 10 = .ok (.iconst 0, 1) := by decide +kernel
theorem dX9_takeOver_11 : decode cX9_takeOver 11 = .ok (.istore_n 3, 1) := by decide +kernel
theorem dX9_takeOver_12 : decode cX9_takeOver 12 = .ok (.iload_n 3, 1) := by decide +kernel
theorem dX9_takeOver_13 : decode cX9_takeOver 13 = .ok (.iload_n 2, 1) := by decide +kernel
theorem dX9_takeOver_14 : decode cX9_takeOver 14 = .ok (.if_icmp .ge 21, 3) := by decide +kernel
theorem dX9_takeOver_17 : decode cX9_takeOver 17 = .ok (.aload_n 0, 1) := by decide +kernel
theorem dX9_takeOver_18 : decode cX9_takeOver 18 = .ok (.getfield 9, 3) := by decide +kernel
theorem dX9_takeOver_21 : decode cX9_takeOver 21 = .ok (.iload_n 3, 1) := by decide +kernel
theorem dX9_takeOver_22 : decode cX9_takeOver 22 = .ok (.aload_n 1, 1) := by decide +kernel
theorem dX9_takeOver_23 : decode cX9_takeOver 23 = .ok (.getfield 9, 3) := by decide +kernel
theorem dX9_takeOver_26 : decode cX9_takeOver 26 = .ok (.iload_n 3, 1) := by decide +kernel
theorem dX9_takeOver_27 : decode cX9_takeOver 27 = .ok (.iaload, 1) := by decide +kernel
theorem dX9_takeOver_28 : decode cX9_takeOver 28 = .ok (.iastore, 1) := by decide +kernel
theorem dX9_takeOver_29 : decode cX9_takeOver 29 = .ok (.iinc 3 1, 3) := by decide +kernel
theorem dX9_takeOver_32 : decode cX9_takeOver 32 = .ok (.goto (-20), 3) := by decide +kernel
theorem dX9_takeOver_35 : decode cX9_takeOver 35 = .ok (.aload_n 0, 1) := by decide +kernel
theorem dX9_takeOver_36 : decode cX9_takeOver 36 = .ok (.iload_n 2, 1) := by decide +kernel
theorem dX9_takeOver_37 : decode cX9_takeOver 37 = .ok (.putfield 15, 3) := by decide +kernel
theorem dX9_takeOver_40 : decode cX9_takeOver 40 = .ok (.return_, 1) := by decide +kernel
theorem dX9_reverse_0 : decode cX9_reverse 0 = .ok (.aload_n 0, 1) := by decide +kernel
theorem dX9_reverse_1 : decode cX9_reverse 1 = .ok (.getfield 15, 3) := by decide +kernel
theorem dX9_reverse_4 : decode cX9_reverse 4 = .ok (.bipush 100, 2) := by decide +kernel
theorem dX9_reverse_6 : decode cX9_reverse 6 = .ok (.invokestatic 28, 3) := by decide +kernel
theorem dX9_reverse_9 : decode cX9_reverse 9 = .ok (.istore_n 1, 1) := by decide +kernel
theorem dX9_reverse_10 : decode cX9_reverse 10 = .ok (.iconst 0, 1) := by decide +kernel
theorem dX9_reverse_11 : decode cX9_reverse 11 = .ok (.istore_n 2, 1) := by decide +kernel
theorem dX9_reverse_12 : decode cX9_reverse 12 = .ok (.iload_n 2, 1) := by decide +kernel
theorem dX9_reverse_13 : decode cX9_reverse 13 = .ok (.iload_n 1, 1) := by decide +kernel
theorem dX9_reverse_14 : decode cX9_reverse 14 = .ok (.iconst 2, 1) := by decide +kernel
theorem dX9_reverse_15 : decode cX9_reverse 15 = .ok (.idiv, 1) := by decide +kernel
theorem dX9_reverse_16 : decode cX9_reverse 16 = .ok (.if_icmp .ge 43, 3) := by decide +kernel
theorem dX9_reverse_19 : decode cX9_reverse 19 = .ok (.aload_n 0, 1) := by decide +kernel
theorem dX9_reverse_20 : decode cX9_reverse 20 = .ok (.getfield 9, 3) := by decide +kernel
theorem dX9_reverse_23 : decode cX9_reverse 23 = .ok (.iload_n 2, 1) := by decide +kernel
theorem dX9_reverse_24 : decode cX9_reverse 24 = .ok (.iaload, 1) := by decide +kernel
theorem dX9_reverse_25 : decode cX9_reverse 25 = .ok (.istore_n 3, 1) := by decide +kernel
theorem dX9_reverse_26 : decode cX9_reverse 26 = .ok (.aload_n 0, 1) := by decide +kernel
theorem dX9_reverse_27 : decode cX9_reverse 27 = .ok (.getfield 9, 3) := by decide +kernel
theorem dX9_reverse_30 : decode cX9_reverse 30 = .ok (.iload_n 2, 1) := by decide +kernel
theorem dX9_reverse_31 : decode cX9_reverse 31 = .ok (.aload_n 0, 1) := by decide +kernel
theorem dX9_reverse_32 : decode cX9_reverse 32 = .ok (.getfield 9, 3) := by decide +kernel
theorem dX9_reverse_35 : decode cX9_reverse 35 = .ok (.iload_n 1, 1) := by decide +kernel
theorem dX9_reverse_36 : decode cX9_reverse 36 = .ok (.iconst 1, 1) := by decide +kernel
theorem dX9_reverse_37 : decode cX9_reverse 37 = .ok (.isub, 1) := by decide +kernel
theorem dX9_reverse_38 : decode cX9_reverse 38 = .ok (.iload_n 2, 1) := by decide +kernel
theorem dX9_reverse_39 : decode cX9_reverse 39 = .ok (.isub, 1) := by decide +kernel
theorem dX9_reverse_40 : decode cX9_reverse 40 = .ok (.iaload, 1) := by decide +kernel
theorem dX9_reverse_41 : decode cX9_reverse 41 = .ok (.iastore, 1) := by decide +kernel
theorem dX9_reverse_42 : decode cX9_reverse 42 = .ok (.aload_n 0, 1) := by decide +kernel
theorem dX9_reverse_43 : decode cX9_reverse 43 = .ok (.getfield 9, 3) := by decide +kernel
theorem dX9_reverse_46 : decode cX9_reverse 46 = .ok (.iload_n 1, 1) := by decide +kernel
theorem dX9_reverse_47 : decode cX9_reverse 47 = .ok (.iconst 1, 1) := by decide +kernel
theorem dX9_reverse_48 : decode cX9_reverse 48 = .ok (.isub, 1) := by decide +kernel
theorem dX9_reverse_49 : decode cX9_reverse 49 = .ok (.iload_n 2, 1) := by decide +kernel
theorem dX9_reverse_50 : decode cX9_reverse 50 = .ok (.isub, 1) := by decide +kernel
theorem dX9_reverse_51 : decode cX9_reverse 51 = .ok (.iload_n 3, 1) := by decide +kernel
theorem dX9_reverse_52 : decode cX9_reverse 52 = .ok (.iastore, 1) := by decide +kernel
theorem dX9_reverse_53 : decode cX9_reverse 53 = .ok (.iinc 2 1, 3) := by decide +kernel
theorem dX9_reverse_56 : decode cX9_reverse 56 = .ok (.goto (-44), 3) := by decide +kernel
theorem dX9_reverse_59 : decode cX9_reverse 59 = .ok (.return_, 1) := by decide +kernel
set_option maxRecDepth 20000 in
theorem ggX9_isInOrder_X9_recordAt : GoodIn wsX9_isInOrder wsX9_recordAt := goodIn_r _ [6, 1, 7, 14, 15] (by decide +kernel) (by decide +kernel)
set_option maxRecDepth 20000 in
theorem gX9_isInOrder_X9_recordAt : GoodIn wsX9_isInOrder (wsV RX9 19 RX9 yX9_recordAt wsX9_recordAt) := goodIn_app (goodIn_of _ (by decide +kernel)) ggX9_isInOrder_X9_recordAt
set_option maxRecDepth 20000 in
theorem ggX9_isInOrder_X0_rankOf : GoodIn wsX9_isInOrder wsX0_rankOf := goodIn_r _ [12, 13, 16, 17, 18] (by decide +kernel) (by decide +kernel)
set_option maxRecDepth 20000 in
theorem gX9_isInOrder_X0_rankOf : GoodIn wsX9_isInOrder (wsV RX9 34 RX0 yX0_rankOf wsX0_rankOf) := goodIn_app (goodIn_of _ (by decide +kernel)) ggX9_isInOrder_X0_rankOf
theorem dX9_isInOrder_0 : decode cX9_isInOrder 0 = .ok (.iconst 1, 1) := by decide +kernel
theorem dX9_isInOrder_1 : decode cX9_isInOrder 1 = .ok (.istore_n 3, 1) := by decide +kernel
theorem dX9_isInOrder_2 : decode cX9_isInOrder 2 = .ok (.iload_n 3, 1) := by decide +kernel
theorem dX9_isInOrder_3 : decode cX9_isInOrder 3 = .ok (.aload_n 0, 1) := by decide +kernel
theorem dX9_isInOrder_4 : decode cX9_isInOrder 4 = .ok (.getfield 15, 3) := by decide +kernel
theorem dX9_isInOrder_7 : decode cX9_isInOrder 7 = .ok (.if_icmp .ge 36, 3) := by decide +kernel
theorem dX9_isInOrder_10 : decode cX9_isInOrder 10 = .ok (.aload_n 1, 1) := by decide +kernel
theorem dX9_isInOrder_11 : decode cX9_isInOrder 11 = .ok (.aload_n 0, 1) := by decide +kernel
theorem dX9_isInOrder_12 : decode cX9_isInOrder 12 = .ok (.iload_n 3, 1) := by decide +kernel
theorem dX9_isInOrder_13 : decode cX9_isInOrder 13 = .ok (.invokevirtual 19, 3) := by decide +kernel
theorem dX9_isInOrder_16 : decode cX9_isInOrder 16 = .ok (.iload_n 2, 1) := by decide +kernel
theorem dX9_isInOrder_17 : decode cX9_isInOrder 17 = .ok (.invokevirtual 34, 3) := by decide +kernel
theorem dX9_isInOrder_20 : decode cX9_isInOrder 20 = .ok (.aload_n 1, 1) := by decide +kernel
theorem dX9_isInOrder_21 : decode cX9_isInOrder 21 = .ok (.aload_n 0, 1) := by decide +kernel
theorem dX9_isInOrder_22 : decode cX9_isInOrder 22 = .ok (.iload_n 3, 1) := by decide +kernel
theorem dX9_isInOrder_23 : decode cX9_isInOrder 23 = .ok (.iconst 1, 1) := by decide +kernel
theorem dX9_isInOrder_24 : decode cX9_isInOrder 24 = .ok (.isub, 1) := by decide +kernel
theorem dX9_isInOrder_25 : decode cX9_isInOrder 25 = .ok (.invokevirtual 19, 3) := by decide +kernel
theorem dX9_isInOrder_28 : decode cX9_isInOrder 28 = .ok (.iload_n 2, 1) := by decide +kernel
theorem dX9_isInOrder_29 : decode cX9_isInOrder 29 = .ok (.invokevirtual 34, 3) := by decide +kernel
theorem dX9_isInOrder_32 : decode cX9_isInOrder 32 = .ok (.if_icmp .ge 5, 3) := by decide +kernel
theorem dX9_isInOrder_35 : decode cX9_isInOrder 35 = .ok (.iconst 0, 1) := by decide +kernel
theorem dX9_isInOrder_36 : decode cX9_isInOrder 36 = .ok (.ireturn, 1) := by decide +kernel
theorem dX9_isInOrder_37 : decode cX9_isInOrder 37 = .ok (.iinc 3 1, 3) := by decide +kernel
theorem dX9_isInOrder_40 : decode cX9_isInOrder 40 = .ok (.goto (-38), 3) := by decide +kernel
theorem dX9_isInOrder_43 : decode cX9_isInOrder 43 = .ok (.iconst 1, 1) := by decide +kernel
theorem dX9_isInOrder_44 : decode cX9_isInOrder 44 = .ok (.ireturn, 1) := by decide +kernel
set_option maxRecDepth 20000 in
theorem ggX9_thinOut_X9_keyAt : GoodIn wsX9_thinOut wsX9_keyAt := goodIn_r _ [11, 12, 13, 14, 10, 15, 1, 6, 16, 17, 18, 19, 20, 21, 22, 23, 24, 25, 26] (by decide +kernel) (by decide +kernel)
set_option maxRecDepth 20000 in
theorem gX9_thinOut_X9_keyAt : GoodIn wsX9_thinOut (wsV RX9 37 RX9 yX9_keyAt wsX9_keyAt) := goodIn_app (goodIn_of _ (by decide +kernel)) ggX9_thinOut_X9_keyAt
theorem dX9_thinOut_0 : decode cX9_thinOut 0 = .ok (.aload_n 0, 1) := by decide +kernel
theorem dX9_thinOut_1 : decode cX9_thinOut 1 = .ok (.getfield 15, 3) := by decide +kernel
theorem dX9_thinOut_4 : decode cX9_thinOut 4 = .ok (.bipush 100, 2) := by decide +kernel
theorem dX9_thinOut_6 : decode cX9_thinOut 6 = .ok (.invokestatic 28, 3) := by decide +kernel
theorem dX9_thinOut_9 : decode cX9_thinOut 9 = .ok (.istore_n 3, 1) := by decide +kernel
theorem dX9_thinOut_10 : decode cX9_thinOut 10 = .ok (.iconst 0, 1) := by decide +kernel
theorem dX9_thinOut_11 : decode cX9_thinOut 11 = .ok (.istore 4, 2) := by decide +kernel
theorem dX9_thinOut_13 : decode cX9_thinOut 13 = .ok (.iconst 0, 1) := by decide +kernel
theorem dX9_thinOut_14 : decode cX9_thinOut 14 = .ok (.istore 5, 2) := by decide +kernel
theorem dX9_thinOut_16 : decode cX9_thinOut 16 = .ok (.iload 5, 2) := by decide +kernel
theorem dX9_thinOut_18 : decode cX9_thinOut 18 = .ok (.iload_n 3, 1) := by decide +kernel
theorem dX9_thinOut_19 : decode cX9_thinOut 19 = .ok (.if_icmp .ge 90, 3) := by decide +kernel
theorem dX9_thinOut_22 : decode cX9_thinOut 22 = .ok (.iload_n 2, 1) := by decide +kernel
theorem dX9_thinOut_23 : decode cX9_thinOut 23 = .ok (.ifCond .eq 10, 3) := by decide +kernel
theorem dX9_thinOut_26 : decode cX9_thinOut 26 = .ok (.iload 5, 2) := by decide +kernel
theorem dX9_thinOut_28 : decode cX9_thinOut 28 = .ok (.iconst 1, 1) := by decide +kernel
theorem dX9_thinOut_29 : decode cX9_thinOut 29 = .ok (.iadd, 1) := by decide +kernel
theorem dX9_thinOut_30 : decode cX9_thinOut 30 = .ok (.goto 7, 3) := by decide +kernel
theorem dX9_thinOut_33 : decode cX9_thinOut 33 = .ok (.iload 5, 2) := by decide +kernel
theorem dX9_thinOut_35 : decode cX9_thinOut 35 = .ok (.iconst 1, 1) := by decide +kernel
theorem dX9_thinOut_36 : decode cX9_thinOut 36 = .ok (.isub, 1) := by decide +kernel
theorem dX9_thinOut_37 : decode cX9_thinOut 37 = .ok (.istore 6, 2) := by decide +kernel
theorem dX9_thinOut_39 : decode cX9_thinOut 39 = .ok (.iload 6, 2) := by decide +kernel
theorem dX9_thinOut_41 : decode cX9_thinOut 41 = .ok (.ifCond .lt 26, 3) := by decide +kernel
theorem dX9_thinOut_44 : decode cX9_thinOut 44 = .ok (.iload 6, 2) := by decide +kernel
theorem dX9_thinOut_46 : decode cX9_thinOut 46 = .ok (.iload_n 3, 1) := by decide +kernel
theorem dX9_thinOut_47 : decode cX9_thinOut 47 = .ok (.if_icmp .ge 20, 3) := by decide +kernel
theorem dX9_thinOut_50 : decode cX9_thinOut 50 = .ok (.aload_n 0, 1) := by decide +kernel
theorem dX9_thinOut_51 : decode cX9_thinOut 51 = .ok (.aload_n 1, 1) := by decide +kernel
theorem dX9_thinOut_52 : decode cX9_thinOut 52 = .ok (.iload 6, 2) := by decide +kernel
theorem dX9_thinOut_54 : decode cX9_thinOut 54 = .ok (.invokevirtual 37, 3) := by decide +kernel
theorem dX9_thinOut_57 : decode cX9_thinOut 57 = .ok (.aload_n 0, 1) := by decide +kernel
theorem dX9_thinOut_58 : decode cX9_thinOut 58 = .ok (.aload_n 1, 1) := by decide +kernel
theorem dX9_thinOut_59 : decode cX9_thinOut 59 = .ok (.iload 5, 2) := by decide +kernel
theorem dX9_thinOut_61 : decode cX9_thinOut 61 = .ok (.invokevirtual 37, 3) := by decide +kernel
theorem dX9_thinOut_64 : decode cX9_thinOut 64 = .ok (.if_icmp .eq 7, 3) := by decide +kernel
theorem dX9_thinOut_67 : decode cX9_thinOut 67 = .ok (.iconst 1, 1) := by decide +kernel
theorem dX9_thinOut_68 : decode cX9_thinOut 68 = .ok (.goto 4, 3) := by decide +kernel
theorem dX9_thinOut_71 : decode cX9_thinOut 71 = .ok (.iconst 0, 1) := by decide +kernel
theorem dX9_thinOut_72 : decode cX9_thinOut 72 = .ok (.istore 7, 2) := by decide +kernel
theorem dX9_thinOut_74 : decode cX9_thinOut 74 = .ok (.iload 7, 2) := by decide +kernel
theorem dX9_thinOut_76 : decode cX9_thinOut 76 = .ok (.ifCond .eq 27, 3) := by decide +kernel
theorem dX9_thinOut_79 : decode cX9_thinOut 79 = .ok (.iload 4, 2) := by decide +kernel
theorem dX9_thinOut_81 : decode cX9_thinOut 81 = .ok (.bipush 100, 2) := by decide +kernel
theorem dX9_thinOut_83 : decode cX9_thinOut 83 = .ok (.if_icmp .ge 20, 3) := by decide +kernel
theorem dX9_thinOut_86 : decode cX9_thinOut 86 = .ok (.aload_n 0, 1) := by decide +kernel
theorem dX9_thinOut_87 : decode cX9_thinOut 87 = .ok (.getfield 9, 3) := by decide +kernel
theorem dX9_thinOut_90 : decode cX9_thinOut 90 = .ok (.iload 4, 2) := by decide +kernel
theorem dX9_thinOut_92 : decode cX9_thinOut 92 = .ok (.aload_n 0, 1) := by decide +kernel
theorem dX9_thinOut_93 : decode cX9_thinOut 93 = .ok (.getfield 9, 3) := by decide +kernel
theorem dX9_thinOut_96 : decode cX9_thinOut 96 = .ok (.iload 5, 2) := by decide +kernel
theorem dX9_thinOut_98 : decode cX9_thinOut 98 = .ok (.iaload, 1) := by decide +kernel
theorem dX9_thinOut_99 : decode cX9_thinOut 99 = .ok (.iastore, 1) := by decide +kernel
theorem dX9_thinOut_100 : decode cX9_thinOut 100 = .ok (.iinc 4 1, 3) := by decide +kernel
theorem dX9_thinOut_103 : decode cX9_thinOut 103 = .ok (.iinc 5 1, 3) := by decide +kernel
theorem dX9_thinOut_106 : decode cX9_thinOut 106 = .ok (.goto (-90), 3) := by decide +kernel
theorem dX9_thinOut_109 : decode cX9_thinOut 109 = .ok (.aload_n 0, 1) := by decide +kernel
theorem dX9_thinOut_110 : decode cX9_thinOut 110 = .ok (.iload 4, 2) := by decide +kernel
theorem dX9_thinOut_112 : decode cX9_thinOut 112 = .ok (.putfield 15, 3) := by decide +kernel
theorem dX9_thinOut_115 : decode cX9_thinOut 115 = .ok (.iload_n 3, 1) := by decide +kernel
theorem dX9_thinOut_116 : decode cX9_thinOut 116 = .ok (.iload 4, 2) := by decide +kernel
theorem dX9_thinOut_118 : decode cX9_thinOut 118 = .ok (.isub, 1) := by decide +kernel
theorem dX9_thinOut_119 : decode cX9_thinOut 119 = .ok (.ireturn, 1) := by decide +kernel
set_option maxRecDepth 20000 in
theorem ggX9_countBelow_X9_keyAt : GoodIn wsX9_countBelow wsX9_keyAt := goodIn_r _ [6, 7, 8, 9, 5, 10, 1, 11, 12, 13, 14, 15, 16, 17, 18, 19, 20, 21, 22] (by decide +kernel) (by decide +kernel)
set_option maxRecDepth 20000 in
theorem gX9_countBelow_X9_keyAt : GoodIn wsX9_countBelow (wsV RX9 37 RX9 yX9_keyAt wsX9_keyAt) := goodIn_app (goodIn_of _ (by decide +kernel)) ggX9_countBelow_X9_keyAt
theorem dX9_countBelow_0 : decode cX9_countBelow 0 = .ok (.iconst 0, 1) := by decide +kernel
theorem dX9_countBelow_1 : decode cX9_countBelow 1 = .ok (.istore_n 3, 1) := by decide +kernel
theorem dX9_countBelow_2 : decode cX9_countBelow 2 = .ok (.iconst 0, 1) := by decide +kernel
theorem dX9_countBelow_3 : decode cX9_countBelow 3 = .ok (.istore 4, 2) := by decide +kernel
theorem dX9_countBelow_5 : decode cX9_countBelow 5 = .ok (.iload 4, 2) := by decide +kernel
theorem dX9_countBelow_7 : decode cX9_countBelow 7 = .ok (.aload_n 0, 1) := by decide +kernel
theorem dX9_countBelow_8 : decode cX9_countBelow 8 = .ok (.getfield 15, 3) := by decide +kernel
theorem dX9_countBelow_11 : decode cX9_countBelow 11 = .ok (.if_icmp .ge 28, 3) := by decide +kernel
theorem dX9_countBelow_14 : decode cX9_countBelow 14 = .ok (.iload_n 3, 1) := by decide +kernel
theorem dX9_countBelow_15 : decode cX9_countBelow 15 = .ok (.aload_n 0, 1) := by decide +kernel
theorem dX9_countBelow_16 : decode cX9_countBelow 16 = .ok (.aload_n 1, 1) := by decide +kernel
theorem dX9_countBelow_17 : decode cX9_countBelow 17 = .ok (.iload 4, 2) := by decide +kernel
theorem dX9_countBelow_19 : decode cX9_countBelow 19 = .ok (.invokevirtual 37, 3) := by decide +kernel
theorem dX9_countBelow_22 : decode cX9_countBelow 22 = .ok (.iload_n 2, 1) := by decide +kernel
theorem dX9_countBelow_23 : decode cX9_countBelow 23 = .ok (.if_icmp .ge 7, 3) := by decide +kernel
theorem dX9_countBelow_26 : decode cX9_countBelow 26 = .ok (.iconst 1, 1) := by decide +kernel
theorem dX9_countBelow_27 : decode cX9_countBelow 27 = .ok (.goto 4, 3) := by decide +kernel
theorem dX9_countBelow_30 : decode cX9_countBelow 30 = .ok (.iconst 0, 1) := by decide +kernel
theorem dX9_countBelow_31 : decode cX9_countBelow 31 = .ok (.iadd, 1) := by decide +kernel
theorem dX9_countBelow_32 : decode cX9_countBelow 32 = .ok (.istore_n 3, 1) := by decide +kernel
theorem dX9_countBelow_33 : decode cX9_countBelow 33 = .ok (.iinc 4 1, 3) := by decide +kernel
theorem dX9_countBelow_36 : decode cX9_countBelow 36 = .ok (.goto (-31), 3) := by decide +kernel
theorem dX9_countBelow_39 : decode cX9_countBelow 39 = .ok (.iload_n 3, 1) := by decide +kernel
theorem dX9_countBelow_40 : decode cX9_countBelow 40 = .ok (.ireturn, 1) := by decide +kernel
set_option maxRecDepth 20000 in
theorem ggX9_countUpTo_X9_keyAt : GoodIn wsX9_countUpTo wsX9_keyAt := goodIn_r _ [6, 7, 8, 9, 5, 10, 1, 11, 12, 13, 14, 15, 16, 17, 18, 19, 20, 21, 22] (by decide +kernel) (by decide +kernel)
set_option maxRecDepth 20000 in
theorem gX9_countUpTo_X9_keyAt : GoodIn wsX9_countUpTo (wsV RX9 37 RX9 yX9_keyAt wsX9_keyAt) := goodIn_app (goodIn_of _ (by decide +kernel)) ggX9_countUpTo_X9_keyAt
theorem dX9_countUpTo_0 : decode cX9_countUpTo 0 = .ok (.iconst 0, 1) := by decide +kernel
theorem dX9_countUpTo_1 : decode cX9_countUpTo 1 = .ok (.istore_n 3, 1) := by decide +kernel
theorem dX9_countUpTo_2 : decode cX9_countUpTo 2 = .ok (.iconst 0, 1) := by decide +kernel
theorem dX9_countUpTo_3 : decode cX9_countUpTo 3 = .ok (.istore 4, 2) := by decide +kernel
theorem dX9_countUpTo_5 : decode cX9_countUpTo 5 = .ok (.iload 4, 2) := by decide +kernel
theorem dX9_countUpTo_7 : decode cX9_countUpTo 7 = .ok (.aload_n 0, 1) := by decide +kernel
theorem dX9_countUpTo_8 : decode cX9_countUpTo 8 = .ok (.getfield 15, 3) := by decide +kernel
theorem dX9_countUpTo_11 : decode cX9_countUpTo 11 = .ok (.if_icmp .ge 28, 3) := by decide +kernel
theorem dX9_countUpTo_14 : decode cX9_countUpTo 14 = .ok (.iload_n 3, 1) := by decide +kernel
theorem dX9_countUpTo_15 : decode cX9_countUpTo 15 = .ok (.aload_n 0, 1) := by decide +kernel
theorem dX9_countUpTo_16 : decode cX9_countUpTo 16 = .ok (.aload_n 1, 1) := by decide +kernel
theorem dX9_countUpTo_17 : decode cX9_countUpTo 17 = .ok (.iload 4, 2) := by decide +kernel
theorem dX9_countUpTo_19 : decode cX9_countUpTo 19 = .ok (.invokevirtual 37, 3) := by decide +kernel
theorem dX9_countUpTo_22 : decode cX9_countUpTo 22 = .ok (.iload_n 2, 1) := by decide +kernel
theorem dX9_countUpTo_23 : decode cX9_countUpTo 23 = .ok (.if_icmp .gt 7, 3) := by decide +kernel
theorem dX9_countUpTo_26 : decode cX9_countUpTo 26 = .ok (.iconst 1, 1) := by decide +kernel
theorem dX9_countUpTo_27 : decode cX9_countUpTo 27 = .ok (.goto 4, 3) := by decide +kernel
theorem dX9_countUpTo_30 : decode cX9_countUpTo 30 = .ok (.iconst 0, 1) := by decide +kernel
theorem dX9_countUpTo_31 : decode cX9_countUpTo 31 = .ok (.iadd, 1) := by decide +kernel
theorem dX9_countUpTo_32 : decode cX9_countUpTo 32 = .ok (.istore_n 3, 1) := by decide +kernel
theorem dX9_countUpTo_33 : decode cX9_countUpTo 33 = .ok (.iinc 4 1, 3) := by decide +kernel
theorem dX9_countUpTo_36 : decode cX9_countUpTo 36 = .ok (.goto (-31), 3) := by decide +kernel
theorem dX9_countUpTo_39 : decode cX9_countUpTo 39 = .ok (.iload_n 3, 1) := by decide +kernel
theorem dX9_countUpTo_40 : decode cX9_countUpTo 40 = .ok (.ireturn, 1) := by decide +kernel
set_option maxRecDepth 20000 in
theorem ggX9_holdsKey_X9_keyAt : GoodIn wsX9_holdsKey wsX9_keyAt := goodIn_r _ [6, 7, 8, 9, 5, 10, 1, 11, 12, 13, 14, 15, 16, 17, 18, 19, 20, 21, 22] (by decide +kernel) (by decide +kernel)
set_option maxRecDepth 20000 in
theorem gX9_holdsKey_X9_keyAt : GoodIn wsX9_holdsKey (wsV RX9 37 RX9 yX9_keyAt wsX9_keyAt) := goodIn_app (goodIn_of _ (by decide +kernel)) ggX9_holdsKey_X9_keyAt
theorem dX9_holdsKey_0 : decode cX9_holdsKey 0 = .ok (.iconst 0, 1) := by decide +kernel
theorem dX9_holdsKey_1 : decode cX9_holdsKey 1 = .ok (.istore_n 3, 1) := by decide +kernel
theorem dX9_holdsKey_2 : decode cX9_holdsKey 2 = .ok (.iload_n 3, 1) := by decide +kernel
theorem dX9_holdsKey_3 : decode cX9_holdsKey 3 = .ok (.aload_n 0, 1) := by decide +kernel
theorem dX9_holdsKey_4 : decode cX9_holdsKey 4 = .ok (.getfield 15, 3) := by decide +kernel
theorem dX9_holdsKey_7 : decode cX9_holdsKey 7 = .ok (.if_icmp .ge 21, 3) := by decide +kernel
theorem dX9_holdsKey_10 : decode cX9_holdsKey 10 = .ok (.aload_n 0, 1) := by decide +kernel
theorem dX9_holdsKey_11 : decode cX9_holdsKey 11 = .ok (.aload_n 1, 1) := by decide +kernel
theorem dX9_holdsKey_12 : decode cX9_holdsKey 12 = .ok (.iload_n 3, 1) := by decide +kernel
theorem dX9_holdsKey_13 : decode cX9_holdsKey 13 = .ok (.invokevirtual 37, 3) := by decide +kernel
theorem dX9_holdsKey_16 : decode cX9_holdsKey 16 = .ok (.iload_n 2, 1) := by decide +kernel
theorem dX9_holdsKey_17 : decode cX9_holdsKey 17 = .ok (.if_icmp .ne 5, 3) := by decide +kernel
theorem dX9_holdsKey_20 : decode cX9_holdsKey 20 = .ok (.iconst 1, 1) := by decide +kernel
theorem dX9_holdsKey_21 : decode cX9_holdsKey 21 = .ok (.ireturn, 1) := by decide +kernel
theorem dX9_holdsKey_22 : decode cX9_holdsKey 22 = .ok (.iinc 3 1, 3) := by decide +kernel
theorem dX9_holdsKey_25 : decode cX9_holdsKey 25 = .ok (.goto (-23), 3) := by decide +kernel
theorem dX9_holdsKey_28 : decode cX9_holdsKey 28 = .ok (.iconst 0, 1) := by decide +kernel
theorem dX9_holdsKey_29 : decode cX9_holdsKey 29 = .ok (.ireturn, 1) := by decide +kernel
set_option maxRecDepth 20000 in
theorem ggX9_unite_X9_recordAt : GoodIn wsX9_unite wsX9_recordAt := goodIn_r _ [6, 1, 7, 18, 19] (by decide +kernel) (by decide +kernel)
set_option maxRecDepth 20000 in
theorem gX9_unite_X9_recordAt : GoodIn wsX9_unite (wsV RX9 19 RX9 yX9_recordAt wsX9_recordAt) := goodIn_app (goodIn_of _ (by decide +kernel)) ggX9_unite_X9_recordAt
set_option maxRecDepth 20000 in
theorem ggX9_unite_X0_rankOf : GoodIn wsX9_unite wsX0_rankOf := goodIn_r _ [12, 13, 20, 21, 22] (by decide +kernel) (by decide +kernel)
set_option maxRecDepth 20000 in
theorem gX9_unite_X0_rankOf : GoodIn wsX9_unite (wsV RX9 34 RX0 yX0_rankOf wsX0_rankOf) := goodIn_app (goodIn_of _ (by decide +kernel)) ggX9_unite_X0_rankOf
set_option maxRecDepth 20000 in
theorem ggX9_unite_X9_add : GoodIn wsX9_unite wsX9_add := goodIn_r _ [17, 1, 7, 18, 19] (by decide +kernel) (by decide +kernel)
set_option maxRecDepth 20000 in
theorem gX9_unite_X9_add : GoodIn wsX9_unite (wsV RX9 41 RX9 yX9_add wsX9_add) := goodIn_app (goodIn_of _ (by decide +kernel)) ggX9_unite_X9_add
theorem dX9_unite_0 : decode cX9_unite 0 = .ok (.iconst 0, 1) := by decide +kernel
theorem dX9_unite_1 : decode cX9_unite 1 = .ok (.istore 4, 2) := by decide +kernel
theorem dX9_unite_3 : decode cX9_unite 3 = .ok (.iconst 0, 1) := by decide +kernel
theorem dX9_unite_4 : decode cX9_unite 4 = .ok (.istore 5, 2) := by decide +kernel
theorem dX9_unite_6 : decode cX9_unite 6 = .ok (.aload_n 2, 1) := by decide +kernel
theorem dX9_unite_7 : decode cX9_unite 7 = .ok (.getfield 15, 3) := by decide +kernel
theorem dX9_unite_10 : decode cX9_unite 10 = .ok (.aload_n 3, 1) := by decide +kernel
theorem dX9_unite_11 : decode cX9_unite 11 = .ok (.getfield 15, 3) := by decide +kernel
theorem dX9_unite_14 : decode cX9_unite 14 = .ok (.iadd, 1) := by decide +kernel
theorem dX9_unite_15 : decode cX9_unite 15 = .ok (.istore 6, 2) := by decide +kernel
theorem dX9_unite_17 : decode cX9_unite 17 = .ok (.iconst 0, 1) := by decide +kernel
theorem dX9_unite_18 : decode cX9_unite 18 = .ok (.istore 7, 2) := by decide +kernel
theorem dX9_unite_20 : decode cX9_unite 20 = .ok (.iload 7, 2) := by decide +kernel
theorem dX9_unite_22 : decode cX9_unite 22 = .ok (.iload 6, 2) := by decide +kernel
theorem dX9_unite_24 : decode cX9_unite 24 = .ok (.if_icmp .ge 113, 3) := by decide +kernel
theorem dX9_unite_27 : decode cX9_unite 27 = .ok (.aload_n 2, 1) := by decide +kernel
theorem dX9_unite_28 : decode cX9_unite 28 = .ok (.iload 4, 2) := by decide +kernel
theorem dX9_unite_30 : decode cX9_unite 30 = .ok (.invokevirtual 19, 3) := by decide +kernel
theorem dX9_unite_33 : decode cX9_unite 33 = .ok (.istore 8, 2) := by decide +kernel
theorem dX9_unite_35 : decode cX9_unite 35 = .ok (.aload_n 3, 1) := by decide +kernel
theorem dX9_unite_36 : decode cX9_unite 36 = .ok (.iload 5, 2) := by decide +kernel
theorem dX9_unite_38 : decode cX9_unite 38 = .ok (.invokevirtual 19, 3) := by decide +kernel
theorem dX9_unite_41 : decode cX9_unite 41 = .ok (.istore 9, 2) := by decide +kernel
theorem dX9_unite_43 : decode cX9_unite 43 = .ok (.iload 4, 2) := by decide +kernel
theorem dX9_unite_45 : decode cX9_unite 45 = .ok (.aload_n 2, 1) := by decide +kernel
theorem dX9_unite_46 : decode cX9_unite 46 = .ok (.getfield 15, 3) := by decide +kernel
theorem dX9_unite_49 : decode cX9_unite 49 = .ok (.if_icmp .ge 29, 3) := by decide +kernel
theorem dX9_unite_52 : decode cX9_unite 52 = .ok (.iload 5, 2) := by decide +kernel
theorem dX9_unite_54 : decode cX9_unite 54 = .ok (.aload_n 3, 1) := by decide +kernel
theorem dX9_unite_55 : decode cX9_unite 55 = .ok (.getfield 15, 3) := by decide +kernel
theorem dX9_unite_58 : decode cX9_unite 58 = .ok (.if_icmp .ge 24, 3) := by decide +kernel
theorem dX9_unite_61 : decode cX9_unite 61 = .ok (.aload_n 1, 1) := by decide +kernel
theorem dX9_unite_62 : decode cX9_unite 62 = .ok (.iload 9, 2) := by decide +kernel
theorem dX9_unite_64 : decode cX9_unite 64 = .ok (.iconst 0, 1) := by decide +kernel
theorem dX9_unite_65 : decode cX9_unite 65 = .ok (.invokevirtual 34, 3) := by decide +kernel
theorem dX9_unite_68 : decode cX9_unite 68 = .ok (.aload_n 1, 1) := by decide +kernel
theorem dX9_unite_69 : decode cX9_unite 69 = .ok (.iload 8, 2) := by decide +kernel
theorem dX9_unite_71 : decode cX9_unite 71 = .ok (.iconst 0, 1) := by decide +kernel
theorem dX9_unite_72 : decode cX9_unite 72 = .ok (.invokevirtual 34, 3) := by decide +kernel
theorem dX9_unite_75 : decode cX9_unite 75 = .ok (.if_icmp .ge 7, 3) := by decide +kernel
theorem dX9_unite_78 : decode cX9_unite 78 = .ok (.iconst 1, 1) := by decide +kernel
theorem dX9_unite_79 : decode cX9_unite 79 = .ok (.goto 4, 3) := by decide +kernel
theorem dX9_unite_82 : decode cX9_unite 82 = .ok (.iconst 0, 1) := by decide +kernel
theorem dX9_unite_83 : decode cX9_unite 83 = .ok (.istore 10, 2) := by decide +kernel
theorem dX9_unite_85 : decode cX9_unite 85 = .ok (.aload_n 0, 1) := by decide +kernel
theorem dX9_unite_86 : decode cX9_unite 86 = .ok (.iload 10, 2) := by decide +kernel
theorem dX9_unite_88 : decode cX9_unite 88 = .ok (.ifCond .eq 8, 3) := by decide +kernel
theorem dX9_unite_91 : decode cX9_unite 91 = .ok (.iload 9, 2) := by decide +kernel
theorem dX9_unite_93 : decode cX9_unite 93 = .ok (.goto 5, 3) := by decide +kernel
theorem dX9_unite_96 : decode cX9_unite 96 = .ok (.iload 8, 2) := by decide +kernel
theorem dX9_unite_98 : decode cX9_unite 98 = .ok (.invokevirtual 41, 3) := by decide +kernel
theorem dX9_unite_101 : decode cX9_unite 101 = .ok (.iload 4, 2) := by decide +kernel
theorem dX9_unite_103 : decode cX9_unite 103 = .ok (.iload 10, 2) := by decide +kernel
theorem dX9_unite_105 : decode cX9_unite 105 = .ok (.ifCond .eq 7, 3) := by decide +kernel
theorem dX9_unite_108 : decode cX9_unite 108 = .ok (.iconst 0, 1) := by decide +kernel
theorem dX9_unite_109 : decode cX9_unite 109 = .ok (.goto 4, 3) := by decide +kernel
theorem dX9_unite_112 : decode cX9_unite 112 = .ok (.iconst 1, 1) := by decide +kernel
theorem dX9_unite_113 : decode cX9_unite 113 = .ok (.iadd, 1) := by decide +kernel
theorem dX9_unite_114 : decode cX9_unite 114 = .ok (.istore 4, 2) := by decide +kernel
theorem dX9_unite_116 : decode cX9_unite 116 = .ok (.iload 5, 2) := by decide +kernel
theorem dX9_unite_118 : decode cX9_unite 118 = .ok (.iload 10, 2) := by decide +kernel
theorem dX9_unite_120 : decode cX9_unite 120 = .ok (.ifCond .eq 7, 3) := by decide +kernel
theorem dX9_unite_123 : decode cX9_unite 123 = .ok (.iconst 1, 1) := by decide +kernel
theorem dX9_unite_124 : decode cX9_unite 124 = .ok (.goto 4, 3) := by decide +kernel
theorem dX9_unite_127 : decode cX9_unite 127 = .ok (.iconst 0, 1) := by decide +kernel
theorem dX9_unite_128 : decode cX9_unite 128 = .ok (.iadd, 1) := by decide +kernel
theorem dX9_unite_129 : decode cX9_unite 129 = .ok (.istore 5, 2) := by decide +kernel
theorem dX9_unite_131 : decode cX9_unite 131 = .ok (.iinc 7 1, 3) := by decide +kernel
theorem dX9_unite_134 : decode cX9_unite 134 = .ok (.goto (-114), 3) := by decide +kernel
theorem dX9_unite_137 : decode cX9_unite 137 = .ok (.return_, 1) := by decide +kernel
set_option maxRecDepth 20000 in
theorem ggX9_pick_X9_keyAt : GoodIn wsX9_pick wsX9_keyAt := goodIn_r _ [6, 7, 8, 9, 5, 10, 1, 11, 12, 13, 14, 15, 16, 17, 26, 27, 28, 29, 30] (by decide +kernel) (by decide +kernel)
set_option maxRecDepth 20000 in
theorem gX9_pick_X9_keyAt : GoodIn wsX9_pick (wsV RX9 37 RX9 yX9_keyAt wsX9_keyAt) := goodIn_app (goodIn_of _ (by decide +kernel)) ggX9_pick_X9_keyAt
set_option maxRecDepth 20000 in
theorem ggX9_pick_X9_holdsKey : GoodIn wsX9_pick wsX9_holdsKey := goodIn_r _ [21, 1, 2, 3, 4, 5, 6, 7, 8, 9, 10, 11, 12, 13, 14, 15, 16, 17, 26, 27, 28, 29, 30] (by decide +kernel) (by decide +kernel)
set_option maxRecDepth 20000 in
theorem gX9_pick_X9_holdsKey : GoodIn wsX9_pick (wsV RX9 45 RX9 yX9_holdsKey wsX9_holdsKey) := goodIn_app (goodIn_of _ (by decide +kernel)) ggX9_pick_X9_holdsKey
set_option maxRecDepth 20000 in
theorem ggX9_pick_X9_recordAt : GoodIn wsX9_pick wsX9_recordAt := goodIn_r _ [10, 1, 11, 26, 27] (by decide +kernel) (by decide +kernel)
set_option maxRecDepth 20000 in
theorem gX9_pick_X9_recordAt : GoodIn wsX9_pick (wsV RX9 19 RX9 yX9_recordAt wsX9_recordAt) := goodIn_app (goodIn_of _ (by decide +kernel)) ggX9_pick_X9_recordAt
set_option maxRecDepth 20000 in
theorem ggX9_pick_X9_add : GoodIn wsX9_pick wsX9_add := goodIn_r _ [25, 1, 11, 26, 27] (by decide +kernel) (by decide +kernel)
set_option maxRecDepth 20000 in
theorem gX9_pick_X9_add : GoodIn wsX9_pick (wsV RX9 41 RX9 yX9_add wsX9_add) := goodIn_app (goodIn_of _ (by decide +kernel)) ggX9_pick_X9_add
theorem dX9_pick_0 : decode cX9_pick 0 = .ok (.iconst 0, 1) := by decide +kernel
theorem dX9_pick_1 : decode cX9_pick 1 = .ok (.istore 5, 2) := by decide +kernel
theorem dX9_pick_3 : decode cX9_pick 3 = .ok (.iload 5, 2) := by decide +kernel
theorem dX9_pick_5 : decode cX9_pick 5 = .ok (.aload_n 2, 1) := by decide +kernel
theorem dX9_pick_6 : decode cX9_pick 6 = .ok (.getfield 15, 3) := by decide +kernel
theorem dX9_pick_9 : decode cX9_pick 9 = .ok (.if_icmp .ge 36, 3) := by decide +kernel
theorem dX9_pick_12 : decode cX9_pick 12 = .ok (.aload_n 3, 1) := by decide +kernel
theorem dX9_pick_13 : decode cX9_pick 13 = .ok (.aload_n 1, 1) := by decide +kernel
theorem dX9_pick_14 : decode cX9_pick 14 = .ok (.aload_n 2, 1) := by decide +kernel
theorem dX9_pick_15 : decode cX9_pick 15 = .ok (.aload_n 1, 1) := by decide +kernel
theorem dX9_pick_16 : decode cX9_pick 16 = .ok (.iload 5, 2) := by decide +kernel
theorem dX9_pick_18 : decode cX9_pick 18 = .ok (.invokevirtual 37, 3) := by decide +kernel
theorem dX9_pick_21 : decode cX9_pick 21 = .ok (.invokevirtual 45, 3) := by decide +kernel
theorem dX9_pick_24 : decode cX9_pick 24 = .ok (.iload 4, 2) := by decide +kernel
theorem dX9_pick_26 : decode cX9_pick 26 = .ok (.if_icmp .ne 13, 3) := by decide +kernel
theorem dX9_pick_29 : decode cX9_pick 29 = .ok (.aload_n 0, 1) := by decide +kernel
theorem dX9_pick_30 : decode cX9_pick 30 = .ok (.aload_n 2, 1) := by decide +kernel
theorem dX9_pick_31 : decode cX9_pick 31 = .ok (.iload 5, 2) := by decide +kernel
theorem dX9_pick_33 : decode cX9_pick 33 = .ok (.invokevirtual 19, 3) := by decide +kernel
theorem dX9_pick_36 : decode cX9_pick 36 = .ok (.invokevirtual 41, 3) := by decide +kernel
theorem dX9_pick_39 : decode cX9_pick 39 = .ok (.iinc 5 1, 3) := by decide +kernel
theorem dX9_pick_42 : decode cX9_pick 42 = .ok (.goto (-39), 3) := by decide +kernel
theorem dX9_pick_45 : decode cX9_pick 45 = .ok (.return_, 1) := by decide +kernel
theorem dX10_init_0 : decode cX10_init 0 = .ok (.aload_n 0, 1) := by decide +kernel
theorem dX10_init_1 : decode cX10_init 1 = .ok (.invokespecial 3, 3) := by decide +kernel
theorem dX10_init_4 : decode cX10_init 4 = .ok (.aload_n 0, 1) := by decide +kernel
theorem dX10_init_5 : decode cX10_init 5 = .ok (.sipush 160, 3) := by decide +kernel
theorem dX10_init_8 : decode cX10_init 8 = .ok (.newarray .int, 2) := by decide +kernel
theorem dX10_init_10 : decode cX10_init 10 = .ok (.putfield 9, 3) := by decide +kernel
theorem dX10_init_13 : decode cX10_init 13 = .ok (.aload_n 0, 1) := by decide +kernel
theorem dX10_init_14 : decode cX10_init 14 = .ok (.iconst 0, 1) := by decide +kernel
theorem dX10_init_15 : decode cX10_init 15 = .ok (.putfield 15, 3) := by decide +kernel
theorem dX10_init_18 : decode cX10_init 18 = .ok (.return_, 1) := by decide +kernel
theorem dX10_byteAt_0 : decode cX10_byteAt 0 = .ok (.iload_n 1, 1) := by decide +kernel
theorem dX10_byteAt_1 : decode cX10_byteAt 1 = .ok (.ifCond .lt 27, 3) := by decide +kernel
theorem dX10_byteAt_4 : decode cX10_byteAt 4 = .ok (.iload_n 1, 1) := by decide +kernel
theorem dX10_byteAt_5 : decode cX10_byteAt 5 = .ok (.aload_n 0, 1) := by decide +kernel
theorem dX10_byteAt_6 : decode cX10_byteAt 6 = .ok (.getfield 15, 3) := by decide +kernel
theorem dX10_byteAt_9 : decode cX10_byteAt 9 = .ok (.if_icmp .ge 19, 3) := by decide +kernel
theorem dX10_byteAt_12 : decode cX10_byteAt 12 = .ok (.iload_n 1, 1) := by decide +kernel
theorem dX10_byteAt_13 : decode cX10_byteAt 13 = .ok (.sipush 160, 3) := by decide +kernel
theorem dX10_byteAt_16 : decode cX10_byteAt 16 = .ok (.if_icmp .ge 12, 3) := by decide +kernel
theorem dX10_byteAt_19 : decode cX10_byteAt 19 = .ok (.aload_n 0, 1) := by decide +kernel
theorem dX10_byteAt_20 : decode cX10_byteAt 20 = .ok (.getfield 9, 3) := by decide +kernel
theorem dX10_byteAt_23 : decode cX10_byteAt 23 = .ok (.iload_n 1, 1) := by decide +kernel
theorem dX10_byteAt_24 : decode cX10_byteAt 24 = .ok (.iaload, 1) := by decide +kernel
theorem dX10_byteAt_25 : decode cX10_byteAt 25 = .ok (.goto 4, 3) := by decide +kernel
theorem dX10_byteAt_28 : decode cX10_byteAt 28 = .ok (.iconst 0, 1) := by decide +kernel
theorem dX10_byteAt_29 : decode cX10_byteAt 29 = .ok (.ireturn, 1) := by decide +kernel
theorem dX10_empty_0 : decode cX10_empty 0 = .ok (.aload_n 0, 1) := by decide +kernel
theorem dX10_empty_1 : decode cX10_empty 1 = .ok (.iconst 0, 1) := by decide +kernel
theorem dX10_empty_2 : decode cX10_empty 2 = .ok (.putfield 15, 3) := by decide +kernel
theorem dX10_empty_5 : decode cX10_empty 5 = .ok (.return_, 1) := by decide +kernel
theorem dX10_add_0 : decode cX10_add 0 = .ok (.aload_n 0, 1) := by decide +kernel
theorem dX10_add_1 : decode cX10_add 1 = .ok (.getfield 15, 3) := by decide +kernel
theorem dX10_add_4 : decode cX10_add 4 = .ok (.ifCond .lt 33, 3) := by decide +kernel
theorem dX10_add_7 : decode cX10_add 7 = .ok (.aload_n 0, 1) := by decide +kernel
theorem dX10_add_8 : decode cX10_add 8 = .ok (.getfield 15, 3) := by decide +kernel
theorem dX10_add_11 : decode cX10_add 11 = .ok (.sipush 160, 3) := by decide +kernel
theorem dX10_add_14 : decode cX10_add 14 = .ok (.if_icmp .ge 23, 3) := by decide +kernel
theorem dX10_add_17 : decode cX10_add 17 = .ok (.aload_n 0, 1) := by decide +kernel
theorem dX10_add_18 : decode cX10_add 18 = .ok (.getfield 9, 3) := by decide +kernel
theorem dX10_add_21 : decode cX10_add 21 = .ok (.aload_n 0, 1) := by decide +kernel
theorem dX10_add_22 : decode cX10_add 22 = .ok (.getfield 15, 3) := by decide +kernel
theorem dX10_add_25 : decode cX10_add 25 = .ok (.iload_n 1, 1) := by decide +kernel
theorem dX10_add_26 : decode cX10_add 26 = .ok (.iastore, 1) := by decide +kernel
theorem dX10_add_27 : decode cX10_add 27 = .ok (.aload_n 0, 1) := by decide +kernel
theorem dX10_add_28 : decode cX10_add 28 = .ok (.dup, 1) := by decide +kernel
theorem dX10_add_29 : decode cX10_add 29 = .ok (.getfield 15, 3) := by decide +kernel
theorem dX10_add_32 : decode cX10_add 32 = .ok (.iconst 1, 1) := by decide +kernel
theorem dX10_add_33 : decode cX10_add 33 = .ok (.iadd, 1) := by decide +kernel
theorem dX10_add_34 : decode cX10_add 34 = .ok (.putfield 15, 3) := by decide +kernel
theorem dX10_add_37 : decode cX10_add 37 = .ok (.return_, 1) := by decide +kernel
set_option maxRecDepth 20000 in
theorem ggX10_replaceBy_X10_empty : GoodIn wsX10_replaceBy wsX10_empty := goodIn_r _ [5, 6, 61, 62] (by decide +kernel) (by decide +kernel)
set_option maxRecDepth 20000 in
theorem gX10_replaceBy_X10_empty : GoodIn wsX10_replaceBy (wsV RX10 19 RX10 yX10_empty wsX10_empty) := goodIn_app (goodIn_of _ (by decide +kernel)) ggX10_replaceBy_X10_empty
set_option maxRecDepth 20000 in
theorem ggX10_replaceBy_J0_length_8abf5 : GoodIn wsX10_replaceBy wsJ0_length_8abf5 := goodIn_r _ [11, 12, 13, 14, 15, 10, 16, 17, 18] (by decide +kernel) (by decide +kernel)
set_option maxRecDepth 20000 in
theorem gX10_replaceBy_J0_length_8abf5 : GoodIn wsX10_replaceBy (wsV RX10 22 RJ0 yJ0_length_8abf5 wsJ0_length_8abf5) := goodIn_app (goodIn_of _ (by decide +kernel)) ggX10_replaceBy_J0_length_8abf5
set_option maxRecDepth 20000 in
theorem ggX10_replaceBy_J0_charAt_5068e : GoodIn wsX10_replaceBy wsJ0_charAt_5068e := goodIn_r _ [22, 12, 23, 24, 25, 10, 26, 17, 18, 27, 28, 29, 30, 31, 32, 33, 34, 35, 36, 37, 38, 39, 40, 41, 42, 43, 44, 45, 46, 47, 48, 49, 50, 51, 52, 53, 54, 55] (by decide +kernel) (by decide +kernel)
set_option maxRecDepth 20000 in
theorem gX10_replaceBy_J0_charAt_5068e : GoodIn wsX10_replaceBy (wsV RX10 28 RJ0 yJ0_charAt_5068e wsJ0_charAt_5068e) := goodIn_app (goodIn_of _ (by decide +kernel)) ggX10_replaceBy_J0_charAt_5068e
set_option maxRecDepth 20000 in
theorem ggX10_replaceBy_X10_add : GoodIn wsX10_replaceBy wsX10_add := goodIn_r _ [59, 6, 60, 61, 62] (by decide +kernel) (by decide +kernel)
set_option maxRecDepth 20000 in
theorem gX10_replaceBy_X10_add : GoodIn wsX10_replaceBy (wsV RX10 32 RX10 yX10_add wsX10_add) := goodIn_app (goodIn_of _ (by decide +kernel)) ggX10_replaceBy_X10_add
theorem dX10_replaceBy_0 : decode cX10_replaceBy 0 = .ok (.aload_n 0, 1) := by decide +kernel
theorem dX10_replaceBy_1 : decode cX10_replaceBy 1 = .ok (.invokevirtual 19, 3) := by decide +kernel
theorem dX10_replaceBy_4 : decode cX10_replaceBy 4 = .ok (.iconst 0, 1) := by decide +kernel
theorem dX10_replaceBy_5 : decode cX10_replaceBy 5 = .ok (.istore_n 2, 1) := by decide +kernel
theorem dX10_replaceBy_6 : decode cX10_replaceBy 6 = .ok (.iload_n 2, 1) := by decide +kernel
theorem dX10_replaceBy_7 : decode cX10_replaceBy 7 = .ok (.aload_n 1, 1) := by decide +kernel
theorem dX10_replaceBy_8 : decode cX10_replaceBy 8 = .ok (.invokevirtual 22, 3) := by decide +kernel
theorem dX10_replaceBy_11 : decode cX10_replaceBy 11 = .ok (.if_icmp .ge 18, 3) := by decide +kernel
theorem dX10_replaceBy_14 : decode cX10_replaceBy 14 = .ok (.aload_n 0, 1) := by decide +kernel
theorem dX10_replaceBy_15 : decode cX10_replaceBy 15 = .ok (.aload_n 1, 1) := by decide +kernel
theorem dX10_replaceBy_16 : decode cX10_replaceBy 16 = .ok (.iload_n 2, 1) := by decide +kernel
theorem dX10_replaceBy_17 : decode cX10_replaceBy 17 = .ok (.invokevirtual 28, 3) := by decide +kernel
theorem dX10_replaceBy_20 : decode cX10_replaceBy 20 = .ok (.invokevirtual 32, 3) := by decide +kernel
theorem dX10_replaceBy_23 : decode cX10_replaceBy 23 = .ok (.iinc 2 1, 3) := by decide +kernel
theorem dX10_replaceBy_26 : decode cX10_replaceBy 26 = .ok (.goto (-20), 3) := by decide +kernel
theorem dX10_replaceBy_29 : decode cX10_replaceBy 29 = .ok (.return_, 1) := by decide +kernel
set_option maxRecDepth 20000 in
theorem ggX11_init_X0_init : GoodIn wsX11_init wsX0_init := goodIn_r _ [45, 46, 2, 3, 47, 48, 49, 50, 164, 165, 166] (by decide +kernel) (by decide +kernel)
set_option maxRecDepth 20000 in
theorem gX11_init_X0_init_n9 : GoodIn wsX11_init (wsX0_init) := ggX11_init_X0_init
set_option maxRecDepth 20000 in
theorem ggX11_init_X9_init : GoodIn wsX11_init wsX9_init := goodIn_r _ [52, 53, 2, 3, 47, 54, 55, 180, 181] (by decide +kernel) (by decide +kernel)
set_option maxRecDepth 20000 in
theorem gX11_init_X9_init_n25 : GoodIn wsX11_init (wsX9_init) := ggX11_init_X9_init
set_option maxRecDepth 20000 in
theorem ggX11_init_X8_init : GoodIn wsX11_init wsX8_init := goodIn_r _ [57, 58, 2, 3, 59, 60, 61, 62, 63, 182, 183, 184, 185, 186] (by decide +kernel) (by decide +kernel)
set_option maxRecDepth 20000 in
theorem gX11_init_X8_init_n32 : GoodIn wsX11_init (wsX8_init) := ggX11_init_X8_init
set_option maxRecDepth 20000 in
theorem ggX11_init_X6_init : GoodIn wsX11_init wsX6_init := goodIn_r _ [65, 66, 2, 3, 47, 67, 68, 69, 187, 188, 189] (by decide +kernel) (by decide +kernel)
set_option maxRecDepth 20000 in
theorem gX11_init_X6_init_n39 : GoodIn wsX11_init (wsX6_init) := ggX11_init_X6_init
set_option maxRecDepth 20000 in
theorem ggX11_init_X7_init : GoodIn wsX11_init wsX7_init := goodIn_r _ [71, 72, 2, 3, 47, 73, 74, 75, 76, 77, 190, 191, 192, 193, 194] (by decide +kernel) (by decide +kernel)
set_option maxRecDepth 20000 in
theorem gX11_init_X7_init_n46 : GoodIn wsX11_init (wsX7_init) := ggX11_init_X7_init
set_option maxRecDepth 20000 in
theorem ggX11_init_X4_init : GoodIn wsX11_init wsX4_init := goodIn_r _ [79, 80, 2, 3, 81, 82, 83, 84, 47, 85, 86, 87, 88, 89, 90, 91, 92, 93, 94, 95, 96, 97, 98, 99, 100, 239, 240, 241, 242, 243, 244, 195, 196, 197, 198, 199, 200, 201, 202] (by decide +kernel) (by decide +kernel)
set_option maxRecDepth 20000 in
theorem gX11_init_X4_init_n53 : GoodIn wsX11_init (wsX4_init) := ggX11_init_X4_init
set_option maxRecDepth 20000 in
theorem ggX11_init_X2_init : GoodIn wsX11_init wsX2_init := goodIn_r _ [102, 103, 2, 3, 104, 19, 20, 105, 106, 82, 83, 107, 47, 108, 109, 110, 111, 23, 24, 112, 113, 114, 115, 116, 117, 118, 119, 120, 121, 64, 65, 66, 67, 68, 69, 92, 93, 94, 95, 96, 97, 98, 99, 100, 70, 71, 72, 73, 74, 75, 76, 77, 187, 188, 189, 203, 204, 205, 206, 207, 208, 209, 210, 211, 212, 213, 214, 215, 216, 217, 239, 240, 241, 242, 243, 244, 190, 191, 192, 193, 194] (by decide +kernel) (by decide +kernel)
set_option maxRecDepth 20000 in
theorem gX11_init_X2_init_n60 : GoodIn wsX11_init (wsX2_init) := ggX11_init_X2_init
set_option maxRecDepth 20000 in
theorem ggX11_init_X5_init : GoodIn wsX11_init wsX5_init := goodIn_r _ [123, 124, 2, 3, 125, 126, 127, 128, 47, 129, 130, 15, 16, 131, 132, 133, 134, 135, 136, 137, 138, 139, 140, 141, 142, 143, 144, 145, 146, 56, 57, 58, 59, 60, 61, 62, 63, 245, 246, 218, 219, 220, 221, 222, 223, 224, 225, 226, 227, 228, 229, 230, 182, 183, 184, 185, 186] (by decide +kernel) (by decide +kernel)
set_option maxRecDepth 20000 in
theorem gX11_init_X5_init_n70 : GoodIn wsX11_init (wsX5_init) := ggX11_init_X5_init
set_option maxRecDepth 20000 in
theorem ggX11_init_X1_init : GoodIn wsX11_init wsX1_init := goodIn_r _ [148, 149, 2, 3, 150, 19, 20, 151, 152, 31, 32, 153, 154, 27, 28, 155, 156, 15, 16, 157, 158, 23, 24, 159, 160, 11, 12, 161, 47, 162, 163, 64, 65, 66, 67, 68, 69, 101, 102, 103, 104, 105, 106, 82, 83, 107, 108, 109, 110, 111, 112, 113, 114, 115, 116, 117, 118, 119, 120, 121, 92, 93, 94, 95, 96, 97, 98, 99, 100, 70, 71, 72, 73, 74, 75, 76, 77, 78, 79, 80, 81, 84, 85, 86, 87, 88, 89, 90, 91, 56, 57, 58, 59, 60, 61, 62, 63, 51, 52, 53, 54, 55, 187, 188, 189, 231, 232, 233, 234, 235, 236, 237, 238, 203, 204, 205, 206, 207, 208, 209, 210, 211, 212, 213, 214, 215, 216, 217, 195, 196, 197, 198, 199, 200, 201, 202, 182, 183, 184, 185, 186, 190, 191, 192, 193, 194, 180, 181, 239, 240, 241, 242, 243, 244] (by decide +kernel) (by decide +kernel)
set_option maxRecDepth 20000 in
theorem gX11_init_X1_init_n77 : GoodIn wsX11_init (wsX1_init) := ggX11_init_X1_init
theorem dX11_init_0 : decode cX11_init 0 = .ok (.aload_n 0, 1) := by decide +kernel
theorem dX11_init_1 : decode cX11_init 1 = .ok (.invokespecial 1, 3) := by decide +kernel
theorem dX11_init_4 : decode cX11_init 4 = .ok (.aload_n 0, 1) := by decide +kernel
theorem dX11_init_5 : decode cX11_init 5 = .ok (.new 7, 3) := by decide +kernel
theorem dX11_init_8 : decode cX11_init 8 = .ok (.dup, 1) := by decide +kernel
theorem dX11_init_9 : decode cX11_init 9 = .ok (.invokespecial 9, 3) := by decide +kernel
theorem dX11_init_12 : decode cX11_init 12 = .ok (.putfield 10, 3) := by decide +kernel
theorem dX11_init_15 : decode cX11_init 15 = .ok (.aload_n 0, 1) := by decide +kernel
theorem dX11_init_16 : decode cX11_init 16 = .ok (.bipush 8, 2) := by decide +kernel
theorem dX11_init_18 : decode cX11_init 18 = .ok (.anewarray 16, 3) := by decide +kernel
theorem dX11_init_21 : decode cX11_init 21 = .ok (.putfield 18, 3) := by decide +kernel
theorem dX11_init_24 : decode cX11_init 24 = .ok (.aload_n 0, 1) := by decide +kernel
theorem dX11_init_25 : decode cX11_init 25 = .ok (.bipush 8, 2) := by decide +kernel
theorem dX11_init_27 : decode cX11_init 27 = .ok (.anewarray 16, 3) := by decide +kernel
theorem dX11_init_30 : decode cX11_init 30 = .ok (.putfield 22, 3) := by decide +kernel
theorem dX11_init_33 : decode cX11_init 33 = .ok (.aload_n 0, 1) := by decide +kernel
theorem dX11_init_34 : decode cX11_init 34 = .ok (.new 16, 3) := by decide +kernel
theorem dX11_init_37 : decode cX11_init 37 = .ok (.dup, 1) := by decide +kernel
theorem dX11_init_38 : decode cX11_init 38 = .ok (.invokespecial 25, 3) := by decide +kernel
theorem dX11_init_41 : decode cX11_init 41 = .ok (.putfield 26, 3) := by decide +kernel
theorem dX11_init_44 : decode cX11_init 44 = .ok (.aload_n 0, 1) := by decide +kernel
theorem dX11_init_45 : decode cX11_init 45 = .ok (.new 30, 3) := by decide +kernel
theorem dX11_init_48 : decode cX11_init 48 = .ok (.dup, 1) := by decide +kernel
theorem dX11_init_49 : decode cX11_init 49 = .ok (.invokespecial 32, 3) := by decide +kernel
theorem dX11_init_52 : decode cX11_init 52 = .ok (.putfield 33, 3) := by decide +kernel
theorem dX11_init_55 : decode cX11_init 55 = .ok (.aload_n 0, 1) := by decide +kernel
theorem dX11_init_56 : decode cX11_init 56 = .ok (.new 37, 3) := by decide +kernel
theorem dX11_init_59 : decode cX11_init 59 = .ok (.dup, 1) := by decide +kernel
theorem dX11_init_60 : decode cX11_init 60 = .ok (.invokespecial 39, 3) := by decide +kernel
theorem dX11_init_63 : decode cX11_init 63 = .ok (.putfield 40, 3) := by decide +kernel
theorem dX11_init_66 : decode cX11_init 66 = .ok (.aload_n 0, 1) := by decide +kernel
theorem dX11_init_67 : decode cX11_init 67 = .ok (.new 44, 3) := by decide +kernel
theorem dX11_init_70 : decode cX11_init 70 = .ok (.dup, 1) := by decide +kernel
theorem dX11_init_71 : decode cX11_init 71 = .ok (.invokespecial 46, 3) := by decide +kernel
theorem dX11_init_74 : decode cX11_init 74 = .ok (.putfield 47, 3) := by decide +kernel
theorem dX11_init_77 : decode cX11_init 77 = .ok (.aload_n 0, 1) := by decide +kernel
theorem dX11_init_78 : decode cX11_init 78 = .ok (.new 51, 3) := by decide +kernel
theorem dX11_init_81 : decode cX11_init 81 = .ok (.dup, 1) := by decide +kernel
theorem dX11_init_82 : decode cX11_init 82 = .ok (.invokespecial 53, 3) := by decide +kernel
theorem dX11_init_85 : decode cX11_init 85 = .ok (.putfield 54, 3) := by decide +kernel
theorem dX11_init_88 : decode cX11_init 88 = .ok (.aload_n 0, 1) := by decide +kernel
theorem dX11_init_89 : decode cX11_init 89 = .ok (.new 58, 3) := by decide +kernel
theorem dX11_init_92 : decode cX11_init 92 = .ok (.dup, 1) := by decide +kernel
theorem dX11_init_93 : decode cX11_init 93 = .ok (.invokespecial 60, 3) := by decide +kernel
theorem dX11_init_96 : decode cX11_init 96 = .ok (.putfield 61, 3) := by decide +kernel
theorem dX11_init_99 : decode cX11_init 99 = .ok (.aload_n 0, 1) := by decide +kernel
theorem dX11_init_100 : decode cX11_init 100 = .ok (.new 58, 3) := by decide +kernel
theorem dX11_init_103 : decode cX11_init 103 = .ok (.dup, 1) := by decide +kernel
theorem dX11_init_104 : decode cX11_init 104 = .ok (.invokespecial 60, 3) := by decide +kernel
theorem dX11_init_107 : decode cX11_init 107 = .ok (.putfield 65, 3) := by decide +kernel
theorem dX11_init_110 : decode cX11_init 110 = .ok (.aload_n 0, 1) := by decide +kernel
theorem dX11_init_111 : decode cX11_init 111 = .ok (.new 68, 3) := by decide +kernel
theorem dX11_init_114 : decode cX11_init 114 = .ok (.dup, 1) := by decide +kernel
theorem dX11_init_115 : decode cX11_init 115 = .ok (.invokespecial 70, 3) := by decide +kernel
theorem dX11_init_118 : decode cX11_init 118 = .ok (.putfield 71, 3) := by decide +kernel
theorem dX11_init_121 : decode cX11_init 121 = .ok (.aload_n 0, 1) := by decide +kernel
theorem dX11_init_122 : decode cX11_init 122 = .ok (.new 75, 3) := by decide +kernel
theorem dX11_init_125 : decode cX11_init 125 = .ok (.dup, 1) := by decide +kernel
theorem dX11_init_126 : decode cX11_init 126 = .ok (.invokespecial 77, 3) := by decide +kernel
theorem dX11_init_129 : decode cX11_init 129 = .ok (.putfield 78, 3) := by decide +kernel
theorem dX11_init_132 : decode cX11_init 132 = .ok (.aload_n 0, 1) := by decide +kernel
theorem dX11_init_133 : decode cX11_init 133 = .ok (.iconst 0, 1) := by decide +kernel
theorem dX11_init_134 : decode cX11_init 134 = .ok (.putfield 82, 3) := by decide +kernel
theorem dX11_init_137 : decode cX11_init 137 = .ok (.iconst 0, 1) := by decide +kernel
theorem dX11_init_138 : decode cX11_init 138 = .ok (.istore_n 1, 1) := by decide +kernel
theorem dX11_init_139 : decode cX11_init 139 = .ok (.iload_n 1, 1) := by decide +kernel
theorem dX11_init_140 : decode cX11_init 140 = .ok (.bipush 8, 2) := by decide +kernel
theorem dX11_init_142 : decode cX11_init 142 = .ok (.if_icmp .ge 35, 3) := by decide +kernel
theorem dX11_init_145 : decode cX11_init 145 = .ok (.aload_n 0, 1) := by decide +kernel
theorem dX11_init_146 : decode cX11_init 146 = .ok (.getfield 18, 3) := by decide +kernel
theorem dX11_init_149 : decode cX11_init 149 = .ok (.iload_n 1, 1) := by decide +kernel
theorem dX11_init_150 : decode cX11_init 150 = .ok (.new 16, 3) := by decide +kernel
theorem dX11_init_153 : decode cX11_init 153 = .ok (.dup, 1) := by decide +kernel
theorem dX11_init_154 : decode cX11_init 154 = .ok (.invokespecial 25, 3) := by decide +kernel
theorem dX11_init_157 : decode cX11_init 157 = .ok (.aastore, 1) := by decide +kernel
theorem dX11_init_158 : decode cX11_init 158 = .ok (.aload_n 0, 1) := by decide +kernel
theorem dX11_init_159 : decode cX11_init 159 = .ok (.getfield 22, 3) := by decide +kernel
theorem dX11_init_162 : decode cX11_init 162 = .ok (.iload_n 1, 1) := by decide +kernel
theorem dX11_init_163 : decode cX11_init 163 = .ok (.new 16, 3) := by decide +kernel
theorem dX11_init_166 : decode cX11_init 166 = .ok (.dup, 1) := by decide +kernel
theorem dX11_init_167 : decode cX11_init 167 = .ok (.invokespecial 25, 3) := by decide +kernel
theorem dX11_init_170 : decode cX11_init 170 = .ok (.aastore, 1) := by decide +kernel
theorem dX11_init_171 : decode cX11_init 171 = .ok (.iinc 1 1, 3) := by decide +kernel
theorem dX11_init_174 : decode cX11_init 174 = .ok (.goto (-35), 3) := by decide +kernel
theorem dX11_init_177 : decode cX11_init 177 = .ok (.return_, 1) := by decide +kernel
set_option maxRecDepth 20000 in
theorem ggX11_put_X11_tapeOf : GoodIn wsX11_put wsX11_tapeOf := goodIn_ca (goodIn_r _ [6, 7, 8, 9, 37, 38, 39, 40, 41, 42, 43, 44, 45, 46, 47, 48, 49] (by decide +kernel) (by decide +kernel)) (goodIn_sub (fun _ h => List.mem_cons_of_mem _ (List.mem_append_left _ (List.mem_append_left _ (List.mem_append_right _ h)))) (by decide +kernel))
set_option maxRecDepth 20000 in
theorem gX11_put_X11_tapeOf : GoodIn wsX11_put (wsV RX11 86 RX11 yX11_tapeOf wsX11_tapeOf) := goodIn_app (goodIn_of _ (by decide +kernel)) ggX11_put_X11_tapeOf
set_option maxRecDepth 20000 in
theorem ggX11_put_X11_demandRange : GoodIn wsX11_put wsX11_demandRange := goodIn_ca (goodIn_r _ [13, 14, 15] (by decide +kernel) (by decide +kernel)) (goodIn_sub (fun _ h => List.mem_cons_of_mem _ (List.mem_append_left _ (List.mem_append_right _ h))) (by decide +kernel))
set_option maxRecDepth 20000 in
theorem gX11_put_X11_demandRange : GoodIn wsX11_put (wsV RX11 90 RX11 yX11_demandRange wsX11_demandRange) := goodIn_app (goodIn_of _ (by decide +kernel)) ggX11_put_X11_demandRange
set_option maxRecDepth 20000 in
theorem ggX11_put_X11_demandRoom : GoodIn wsX11_put wsX11_demandRoom := goodIn_ca (goodIn_r _ [19, 20, 21, 1, 37, 38, 39, 40, 41, 42, 43, 44, 45, 46, 47, 48, 49, 50, 51, 52, 53, 54] (by decide +kernel) (by decide +kernel)) (goodIn_sub (fun _ h => List.mem_cons_of_mem _ (List.mem_append_right _ h)) (by decide +kernel))
set_option maxRecDepth 20000 in
theorem gX11_put_X11_demandRoom : GoodIn wsX11_put (wsV RX11 94 RX11 yX11_demandRoom wsX11_demandRoom) := goodIn_app (goodIn_of _ (by decide +kernel)) ggX11_put_X11_demandRoom
set_option maxRecDepth 20000 in
theorem ggX11_put_X0_add : GoodIn wsX11_put wsX0_add := goodIn_r _ [26, 27, 28, 29, 50, 51, 52] (by decide +kernel) (by decide +kernel)
set_option maxRecDepth 20000 in
theorem gX11_put_X0_add : GoodIn wsX11_put (wsV RX11 98 RX0 yX0_add wsX0_add) := goodIn_app (goodIn_of _ (by decide +kernel)) ggX11_put_X0_add
set_option maxRecDepth 20000 in
theorem ggX11_put_X9_add : GoodIn wsX11_put wsX9_add := goodIn_r _ [34, 35, 36, 53, 54] (by decide +kernel) (by decide +kernel)
set_option maxRecDepth 20000 in
theorem gX11_put_X9_add : GoodIn wsX11_put (wsV RX11 102 RX9 yX9_add wsX9_add) := goodIn_app (goodIn_of _ (by decide +kernel)) ggX11_put_X9_add
theorem dX11_put_0 : decode cX11_put 0 = .ok (.aload_n 0, 1) := by decide +kernel
theorem dX11_put_1 : decode cX11_put 1 = .ok (.iload_n 1, 1) := by decide +kernel
theorem dX11_put_2 : decode cX11_put 2 = .ok (.invokevirtual 86, 3) := by decide +kernel
theorem dX11_put_5 : decode cX11_put 5 = .ok (.astore 4, 2) := by decide +kernel
theorem dX11_put_7 : decode cX11_put 7 = .ok (.aload_n 0, 1) := by decide +kernel
theorem dX11_put_8 : decode cX11_put 8 = .ok (.iload_n 2, 1) := by decide +kernel
theorem dX11_put_9 : decode cX11_put 9 = .ok (.sipush (-999), 3) := by decide +kernel
theorem dX11_put_12 : decode cX11_put 12 = .ok (.sipush 999, 3) := by decide +kernel
theorem dX11_put_15 : decode cX11_put 15 = .ok (.invokevirtual 90, 3) := by decide +kernel
theorem dX11_put_18 : decode cX11_put 18 = .ok (.aload_n 0, 1) := by decide +kernel
theorem dX11_put_19 : decode cX11_put 19 = .ok (.iload_n 3, 1) := by decide +kernel
theorem dX11_put_20 : decode cX11_put 20 = .ok (.iconst 0, 1) := by decide +kernel
theorem dX11_put_21 : decode cX11_put 21 = .ok (.sipush 9999, 3) := by decide +kernel
theorem dX11_put_24 : decode cX11_put 24 = .ok (.invokevirtual 90, 3) := by decide +kernel
theorem dX11_put_27 : decode cX11_put 27 = .ok (.aload_n 0, 1) := by decide +kernel
theorem dX11_put_28 : decode cX11_put 28 = .ok (.aload 4, 2) := by decide +kernel
theorem dX11_put_30 : decode cX11_put 30 = .ok (.iconst 1, 1) := by decide +kernel
theorem dX11_put_31 : decode cX11_put 31 = .ok (.invokevirtual 94, 3) := by decide +kernel
theorem dX11_put_34 : decode cX11_put 34 = .ok (.aload_n 0, 1) := by decide +kernel
theorem dX11_put_35 : decode cX11_put 35 = .ok (.getfield 10, 3) := by decide +kernel
theorem dX11_put_38 : decode cX11_put 38 = .ok (.iload_n 2, 1) := by decide +kernel
theorem dX11_put_39 : decode cX11_put 39 = .ok (.iload_n 3, 1) := by decide +kernel
theorem dX11_put_40 : decode cX11_put 40 = .ok (.invokevirtual 98, 3) := by decide +kernel
theorem dX11_put_43 : decode cX11_put 43 = .ok (.istore 5, 2) := by decide +kernel
theorem dX11_put_45 : decode cX11_put 45 = .ok (.aload 4, 2) := by decide +kernel
theorem dX11_put_47 : decode cX11_put 47 = .ok (.iload 5, 2) := by decide +kernel
theorem dX11_put_49 : decode cX11_put 49 = .ok (.invokevirtual 102, 3) := by decide +kernel
theorem dX11_put_52 : decode cX11_put 52 = .ok (.iload 5, 2) := by decide +kernel
theorem dX11_put_54 : decode cX11_put 54 = .ok (.ireturn, 1) := by decide +kernel
set_option maxRecDepth 20000 in
theorem ggX11_fill_X11_tapeOf : GoodIn wsX11_fill wsX11_tapeOf := goodIn_ca (goodIn_r _ [6, 7, 8, 9, 37, 38, 39, 40, 41, 42, 43, 44, 45, 46, 47, 48, 49] (by decide +kernel) (by decide +kernel)) (goodIn_sub (fun _ h => List.mem_cons_of_mem _ (List.mem_append_left _ (List.mem_append_left _ (List.mem_append_right _ h)))) (by decide +kernel))
set_option maxRecDepth 20000 in
theorem gX11_fill_X11_tapeOf : GoodIn wsX11_fill (wsV RX11 86 RX11 yX11_tapeOf wsX11_tapeOf) := goodIn_app (goodIn_of _ (by decide +kernel)) ggX11_fill_X11_tapeOf
set_option maxRecDepth 20000 in
theorem ggX11_fill_X11_demandRange : GoodIn wsX11_fill wsX11_demandRange := goodIn_ca (goodIn_r _ [13, 14, 15] (by decide +kernel) (by decide +kernel)) (goodIn_sub (fun _ h => List.mem_cons_of_mem _ (List.mem_append_left _ (List.mem_append_right _ h))) (by decide +kernel))
set_option maxRecDepth 20000 in
theorem gX11_fill_X11_demandRange : GoodIn wsX11_fill (wsV RX11 90 RX11 yX11_demandRange wsX11_demandRange) := goodIn_app (goodIn_of _ (by decide +kernel)) ggX11_fill_X11_demandRange
set_option maxRecDepth 20000 in
theorem ggX11_fill_X11_demandRoom : GoodIn wsX11_fill wsX11_demandRoom := goodIn_ca (goodIn_r _ [19, 20, 21, 1, 37, 38, 39, 40, 41, 42, 43, 44, 45, 46, 47, 48, 49, 52, 53, 54, 50, 51] (by decide +kernel) (by decide +kernel)) (goodIn_sub (fun _ h => List.mem_cons_of_mem _ (List.mem_append_right _ h)) (by decide +kernel))
set_option maxRecDepth 20000 in
theorem gX11_fill_X11_demandRoom : GoodIn wsX11_fill (wsV RX11 94 RX11 yX11_demandRoom wsX11_demandRoom) := goodIn_app (goodIn_of _ (by decide +kernel)) ggX11_fill_X11_demandRoom
set_option maxRecDepth 20000 in
theorem ggX11_fill_X0_add : GoodIn wsX11_fill wsX0_add := goodIn_r _ [26, 27, 28, 29, 52, 53, 54] (by decide +kernel) (by decide +kernel)
set_option maxRecDepth 20000 in
theorem gX11_fill_X0_add : GoodIn wsX11_fill (wsV RX11 98 RX0 yX0_add wsX0_add) := goodIn_app (goodIn_of _ (by decide +kernel)) ggX11_fill_X0_add
set_option maxRecDepth 20000 in
theorem ggX11_fill_X9_add : GoodIn wsX11_fill wsX9_add := goodIn_r _ [34, 35, 36, 50, 51] (by decide +kernel) (by decide +kernel)
set_option maxRecDepth 20000 in
theorem gX11_fill_X9_add : GoodIn wsX11_fill (wsV RX11 102 RX9 yX9_add wsX9_add) := goodIn_app (goodIn_of _ (by decide +kernel)) ggX11_fill_X9_add
theorem dX11_fill_0 : decode cX11_fill 0 = .ok (.aload_n 0, 1) := by decide +kernel
theorem dX11_fill_1 : decode cX11_fill 1 = .ok (.iload_n 1, 1) := by decide +kernel
theorem dX11_fill_2 : decode cX11_fill 2 = .ok (.invokevirtual 86, 3) := by decide +kernel
theorem dX11_fill_5 : decode cX11_fill 5 = .ok (.astore 5, 2) := by decide +kernel
theorem dX11_fill_7 : decode cX11_fill 7 = .ok (.aload_n 0, 1) := by decide +kernel
theorem dX11_fill_8 : decode cX11_fill 8 = .ok (.iload_n 2, 1) := by decide +kernel
theorem dX11_fill_9 : decode cX11_fill 9 = .ok (.sipush (-999), 3) := by decide +kernel
theorem dX11_fill_12 : decode cX11_fill 12 = .ok (.sipush 999, 3) := by decide +kernel
theorem dX11_fill_15 : decode cX11_fill 15 = .ok (.invokevirtual 90, 3) := by decide +kernel
theorem dX11_fill_18 : decode cX11_fill 18 = .ok (.aload_n 0, 1) := by decide +kernel
theorem dX11_fill_19 : decode cX11_fill 19 = .ok (.iload_n 3, 1) := by decide +kernel
theorem dX11_fill_20 : decode cX11_fill 20 = .ok (.bipush (-50), 2) := by decide +kernel
theorem dX11_fill_22 : decode cX11_fill 22 = .ok (.bipush 50, 2) := by decide +kernel
theorem dX11_fill_24 : decode cX11_fill 24 = .ok (.invokevirtual 90, 3) := by decide +kernel
theorem dX11_fill_27 : decode cX11_fill 27 = .ok (.aload_n 0, 1) := by decide +kernel
theorem dX11_fill_28 : decode cX11_fill 28 = .ok (.iload 4, 2) := by decide +kernel
theorem dX11_fill_30 : decode cX11_fill 30 = .ok (.iconst 0, 1) := by decide +kernel
theorem dX11_fill_31 : decode cX11_fill 31 = .ok (.bipush 50, 2) := by decide +kernel
theorem dX11_fill_33 : decode cX11_fill 33 = .ok (.invokevirtual 90, 3) := by decide +kernel
theorem dX11_fill_36 : decode cX11_fill 36 = .ok (.iload 4, 2) := by decide +kernel
theorem dX11_fill_38 : decode cX11_fill 38 = .ok (.ifCond .le 21, 3) := by decide +kernel
theorem dX11_fill_41 : decode cX11_fill 41 = .ok (.aload_n 0, 1) := by decide +kernel
theorem dX11_fill_42 : decode cX11_fill 42 = .ok (.iload_n 2, 1) := by decide +kernel
theorem dX11_fill_43 : decode cX11_fill 43 = .ok (.iload_n 3, 1) := by decide +kernel
theorem dX11_fill_44 : decode cX11_fill 44 = .ok (.iload 4, 2) := by decide +kernel
theorem dX11_fill_46 : decode cX11_fill 46 = .ok (.iconst 1, 1) := by decide +kernel
theorem dX11_fill_47 : decode cX11_fill 47 = .ok (.isub, 1) := by decide +kernel
theorem dX11_fill_48 : decode cX11_fill 48 = .ok (.imul, 1) := by decide +kernel
theorem dX11_fill_49 : decode cX11_fill 49 = .ok (.iadd, 1) := by decide +kernel
theorem dX11_fill_50 : decode cX11_fill 50 = .ok (.sipush (-999), 3) := by decide +kernel
theorem dX11_fill_53 : decode cX11_fill 53 = .ok (.sipush 999, 3) := by decide +kernel
theorem dX11_fill_56 : decode cX11_fill 56 = .ok (.invokevirtual 90, 3) := by decide +kernel
theorem dX11_fill_59 : decode cX11_fill 59 = .ok (.aload_n 0, 1) := by decide +kernel
theorem dX11_fill_60 : decode cX11_fill 60 = .ok (.aload 5, 2) := by decide +kernel
theorem dX11_fill_62 : decode cX11_fill 62 = .ok (.iload 4, 2) := by decide +kernel
theorem dX11_fill_64 : decode cX11_fill 64 = .ok (.invokevirtual 94, 3) := by decide +kernel
theorem dX11_fill_67 : decode cX11_fill 67 = .ok (.iconst 0, 1) := by decide +kernel
theorem dX11_fill_68 : decode cX11_fill 68 = .ok (.istore 6, 2) := by decide +kernel
theorem dX11_fill_70 : decode cX11_fill 70 = .ok (.iload 6, 2) := by decide +kernel
theorem dX11_fill_72 : decode cX11_fill 72 = .ok (.iload 4, 2) := by decide +kernel
theorem dX11_fill_74 : decode cX11_fill 74 = .ok (.if_icmp .ge 28, 3) := by decide +kernel
theorem dX11_fill_77 : decode cX11_fill 77 = .ok (.aload 5, 2) := by decide +kernel
theorem dX11_fill_79 : decode cX11_fill 79 = .ok (.aload_n 0, 1) := by decide +kernel
theorem dX11_fill_80 : decode cX11_fill 80 = .ok (.getfield 10, 3) := by decide +kernel
theorem dX11_fill_83 : decode cX11_fill 83 = .ok (.iload_n 2, 1) := by decide +kernel
theorem dX11_fill_84 : decode cX11_fill 84 = .ok (.iload_n 3, 1) := by decide +kernel
theorem dX11_fill_85 : decode cX11_fill 85 = .ok (.iload 6, 2) := by decide +kernel
theorem dX11_fill_87 : decode cX11_fill 87 = .ok (.imul, 1) := by decide +kernel
theorem dX11_fill_88 : decode cX11_fill 88 = .ok (.iadd, 1) := by decide +kernel
theorem dX11_fill_89 : decode cX11_fill 89 = .ok (.iconst 0, 1) := by decide +kernel
theorem dX11_fill_90 : decode cX11_fill 90 = .ok (.invokevirtual 98, 3) := by decide +kernel
theorem dX11_fill_93 : decode cX11_fill 93 = .ok (.invokevirtual 102, 3) := by decide +kernel
theorem dX11_fill_96 : decode cX11_fill 96 = .ok (.iinc 6 1, 3) := by decide +kernel
theorem dX11_fill_99 : decode cX11_fill 99 = .ok (.goto (-29), 3) := by decide +kernel
theorem dX11_fill_102 : decode cX11_fill 102 = .ok (.aload 5, 2) := by decide +kernel
theorem dX11_fill_104 : decode cX11_fill 104 = .ok (.getfield 105, 3) := by decide +kernel
theorem dX11_fill_107 : decode cX11_fill 107 = .ok (.ireturn, 1) := by decide +kernel
set_option maxRecDepth 20000 in
theorem ggX11_scatter_X11_tapeOf : GoodIn wsX11_scatter wsX11_tapeOf := goodIn_ca (goodIn_r _ [12, 13, 14, 15, 41, 42, 43, 44, 45, 46, 47, 48, 49, 50, 51, 52, 53] (by decide +kernel) (by decide +kernel)) (goodIn_sub (fun _ h => List.mem_cons_of_mem _ (List.mem_append_left _ (List.mem_append_right _ h))) (by decide +kernel))
set_option maxRecDepth 20000 in
theorem gX11_scatter_X11_tapeOf : GoodIn wsX11_scatter (wsV RX11 86 RX11 yX11_tapeOf wsX11_tapeOf) := goodIn_app (goodIn_of _ (by decide +kernel)) ggX11_scatter_X11_tapeOf
set_option maxRecDepth 20000 in
theorem ggX11_scatter_X11_demandRange : GoodIn wsX11_scatter wsX11_demandRange := goodIn_ca (goodIn_r _ [19, 1, 2] (by decide +kernel) (by decide +kernel)) (goodIn_sub (fun _ h => List.mem_cons_of_mem _ (List.mem_append_left _ (List.mem_append_left _ (List.mem_append_right _ h)))) (by decide +kernel))
set_option maxRecDepth 20000 in
theorem gX11_scatter_X11_demandRange : GoodIn wsX11_scatter (wsV RX11 90 RX11 yX11_demandRange wsX11_demandRange) := goodIn_app (goodIn_of _ (by decide +kernel)) ggX11_scatter_X11_demandRange
set_option maxRecDepth 20000 in
theorem ggX11_scatter_X11_demandRoom : GoodIn wsX11_scatter wsX11_demandRoom := goodIn_ca (goodIn_r _ [23, 24, 25, 7, 41, 42, 43, 44, 45, 46, 47, 48, 49, 50, 51, 52, 53, 56, 57, 58, 54, 55] (by decide +kernel) (by decide +kernel)) (goodIn_sub (fun _ h => List.mem_cons_of_mem _ (List.mem_append_right _ h)) (by decide +kernel))
set_option maxRecDepth 20000 in
theorem gX11_scatter_X11_demandRoom : GoodIn wsX11_scatter (wsV RX11 94 RX11 yX11_demandRoom wsX11_demandRoom) := goodIn_app (goodIn_of _ (by decide +kernel)) ggX11_scatter_X11_demandRoom
set_option maxRecDepth 20000 in
theorem ggX11_scatter_X0_add : GoodIn wsX11_scatter wsX0_add := goodIn_r _ [30, 31, 32, 33, 56, 57, 58] (by decide +kernel) (by decide +kernel)
set_option maxRecDepth 20000 in
theorem gX11_scatter_X0_add : GoodIn wsX11_scatter (wsV RX11 98 RX0 yX0_add wsX0_add) := goodIn_app (goodIn_of _ (by decide +kernel)) ggX11_scatter_X0_add
set_option maxRecDepth 20000 in
theorem ggX11_scatter_X9_add : GoodIn wsX11_scatter wsX9_add := goodIn_r _ [38, 39, 40, 54, 55] (by decide +kernel) (by decide +kernel)
set_option maxRecDepth 20000 in
theorem gX11_scatter_X9_add : GoodIn wsX11_scatter (wsV RX11 102 RX9 yX9_add wsX9_add) := goodIn_app (goodIn_of _ (by decide +kernel)) ggX11_scatter_X9_add
theorem dX11_scatter_0 : decode cX11_scatter 0 = .ok (.aload_n 0, 1) := by decide +kernel
theorem dX11_scatter_1 : decode cX11_scatter 1 = .ok (.iload_n 1, 1) := by decide +kernel
theorem dX11_scatter_2 : decode cX11_scatter 2 = .ok (.invokevirtual 86, 3) := by decide +kernel
theorem dX11_scatter_5 : decode cX11_scatter 5 = .ok (.astore 5, 2) := by decide +kernel
theorem dX11_scatter_7 : decode cX11_scatter 7 = .ok (.aload_n 0, 1) := by decide +kernel
theorem dX11_scatter_8 : decode cX11_scatter 8 = .ok (.iload_n 2, 1) := by decide +kernel
theorem dX11_scatter_9 : decode cX11_scatter 9 = .ok (.iconst 0, 1) := by decide +kernel
theorem dX11_scatter_10 : decode cX11_scatter 10 = .ok (.bipush 50, 2) := by decide +kernel
theorem dX11_scatter_12 : decode cX11_scatter 12 = .ok (.invokevirtual 90, 3) := by decide +kernel
theorem dX11_scatter_15 : decode cX11_scatter 15 = .ok (.iload_n 3, 1) := by decide +kernel
theorem dX11_scatter_16 : decode cX11_scatter 16 = .ok (.iconst 1, 1) := by decide +kernel
theorem dX11_scatter_17 : decode cX11_scatter 17 = .ok (.if_icmp .lt 10, 3) := by decide +kernel
theorem dX11_scatter_20 : decode cX11_scatter 20 = .ok (.iload_n 3, 1) := by decide +kernel
theorem dX11_scatter_21 : decode cX11_scatter 21 = .ok (.sipush 999, 3) := by decide +kernel
theorem dX11_scatter_24 : decode cX11_scatter 24 = .ok (.if_icmp .le 13, 3) := by decide +kernel
theorem dX11_scatter_27 : decode cX11_scatter 27 = .ok (.new 109, 3) := by decide +kernel
theorem dX11_scatter_30 : decode cX11_scatter 30 = .ok (.dup, 1) := by decide +kernel
theorem dX11_scatter_31 : decode cX11_scatter 31 = .ok (.ldc 111, 2) := by decide +kernel
theorem dX11_scatter_33 : decode cX11_scatter 33 = .ok (.invokespecial 113, 3) := by decide +kernel
theorem dX11_scatter_36 : decode cX11_scatter 36 = .ok (.athrow, 1) := by decide +kernel
theorem dX11_scatter_37 : decode cX11_scatter 37 = .ok (.aload_n 0, 1) := by decide +kernel
theorem dX11_scatter_38 : decode cX11_scatter 38 = .ok (.iload 4, 2) := by decide +kernel
theorem dX11_scatter_40 : decode cX11_scatter 40 = .ok (.iconst 0, 1) := by decide +kernel
theorem dX11_scatter_41 : decode cX11_scatter 41 = .ok (.ldc 118, 2) := by decide +kernel
theorem dX11_scatter_43 : decode cX11_scatter 43 = .ok (.invokevirtual 90, 3) := by decide +kernel
theorem dX11_scatter_46 : decode cX11_scatter 46 = .ok (.aload_n 0, 1) := by decide +kernel
theorem dX11_scatter_47 : decode cX11_scatter 47 = .ok (.aload 5, 2) := by decide +kernel
theorem dX11_scatter_49 : decode cX11_scatter 49 = .ok (.iload_n 2, 1) := by decide +kernel
theorem dX11_scatter_50 : decode cX11_scatter 50 = .ok (.invokevirtual 94, 3) := by decide +kernel
theorem dX11_scatter_53 : decode cX11_scatter 53 = .ok (.iload 4, 2) := by decide +kernel
theorem dX11_scatter_55 : decode cX11_scatter 55 = .ok (.i2l, 1) := by decide +kernel
theorem dX11_scatter_56 : decode cX11_scatter 56 = .ok (.lstore 6, 2) := by decide +kernel
theorem dX11_scatter_58 : decode cX11_scatter 58 = .ok (.iconst 0, 1) := by decide +kernel
theorem dX11_scatter_59 : decode cX11_scatter 59 = .ok (.istore 8, 2) := by decide +kernel
theorem dX11_scatter_61 : decode cX11_scatter 61 = .ok (.iload 8, 2) := by decide +kernel
theorem dX11_scatter_63 : decode cX11_scatter 63 = .ok (.iload_n 2, 1) := by decide +kernel
theorem dX11_scatter_64 : decode cX11_scatter 64 = .ok (.if_icmp .ge 47, 3) := by decide +kernel
theorem dX11_scatter_67 : decode cX11_scatter 67 = .ok (.lload 6, 2) := by decide +kernel
theorem dX11_scatter_69 : decode cX11_scatter 69 = .ok (.ldc2_w 119, 3) := by decide +kernel
theorem dX11_scatter_72 : decode cX11_scatter 72 = .ok (.lmul, 1) := by decide +kernel
theorem dX11_scatter_73 : decode cX11_scatter 73 = .ok (.ldc2_w 121, 3) := by decide +kernel
theorem dX11_scatter_76 : decode cX11_scatter 76 = .ok (.ladd, 1) := by decide +kernel
theorem dX11_scatter_77 : decode cX11_scatter 77 = .ok (.ldc2_w 123, 3) := by decide +kernel
theorem dX11_scatter_80 : decode cX11_scatter 80 = .ok (.land, 1) := by decide +kernel
theorem dX11_scatter_81 : decode cX11_scatter 81 = .ok (.lstore 6, 2) := by decide +kernel
theorem dX11_scatter_83 : decode cX11_scatter 83 = .ok (.aload 5, 2) := by decide +kernel
theorem dX11_scatter_85 : decode cX11_scatter 85 = .ok (.aload_n 0, 1) := by decide +kernel
theorem dX11_scatter_86 : decode cX11_scatter 86 = .ok (.getfield 10, 3) := by decide +kernel
theorem dX11_scatter_89 : decode cX11_scatter 89 = .ok (.lload 6, 2) := by decide +kernel
theorem dX11_scatter_91 : decode cX11_scatter 91 = .ok (.bipush 16, 2) := by decide +kernel
theorem dX11_scatter_93 : decode cX11_scatter 93 = .ok (.lshr, 1) := by decide +kernel
theorem dX11_scatter_94 : decode cX11_scatter 94 = .ok (.iload_n 3, 1) := by decide +kernel
theorem dX11_scatter_95 : decode cX11_scatter 95 = .ok (.i2l, 1) := by decide +kernel
theorem dX11_scatter_96 : decode cX11_scatter 96 = .ok (.lrem, 1) := by decide +kernel
theorem dX11_scatter_97 : decode cX11_scatter 97 = .ok (.l2i, 1) := by decide +kernel
theorem dX11_scatter_98 : decode cX11_scatter 98 = .ok (.iconst 0, 1) := by decide +kernel
theorem dX11_scatter_99 : decode cX11_scatter 99 = .ok (.invokevirtual 98, 3) := by decide +kernel
theorem dX11_scatter_102 : decode cX11_scatter 102 = .ok (.invokevirtual 102, 3) := by decide +kernel
theorem dX11_scatter_105 : decode cX11_scatter 105 = .ok (.iinc 8 1, 3) := by decide +kernel
theorem dX11_scatter_108 : decode cX11_scatter 108 = .ok (.goto (-47), 3) := by decide +kernel
theorem dX11_scatter_111 : decode cX11_scatter 111 = .ok (.aload 5, 2) := by decide +kernel
theorem dX11_scatter_113 : decode cX11_scatter 113 = .ok (.getfield 105, 3) := by decide +kernel
theorem dX11_scatter_116 : decode cX11_scatter 116 = .ok (.ireturn, 1) := by decide +kernel
theorem dX11_records_0 : decode cX11_records 0 = .ok (.aload_n 0, 1) := by decide +kernel
theorem dX11_records_1 : decode cX11_records 1 = .ok (.getfield 10, 3) := by decide +kernel
theorem dX11_records_4 : decode cX11_records 4 = .ok (.getfield 125, 3) := by decide +kernel
theorem dX11_records_7 : decode cX11_records 7 = .ok (.ireturn, 1) := by decide +kernel
set_option maxRecDepth 20000 in
theorem ggX11_key_X11_demandRecord : GoodIn wsX11_key wsX11_demandRecord := goodIn_ca (goodIn_r _ [6, 7, 8, 1, 9, 10, 11, 12, 13, 14, 20, 21, 22, 23, 24, 25, 26, 27, 28, 29, 30, 31, 32, 33, 34, 35] (by decide +kernel) (by decide +kernel)) (goodIn_sub (fun _ h => List.mem_cons_of_mem _ (List.mem_append_right _ h)) (by decide +kernel))
set_option maxRecDepth 20000 in
theorem gX11_key_X11_demandRecord : GoodIn wsX11_key (wsV RX11 128 RX11 yX11_demandRecord wsX11_demandRecord) := goodIn_app (goodIn_of _ (by decide +kernel)) ggX11_key_X11_demandRecord
set_option maxRecDepth 20000 in
theorem ggX11_key_X0_keyOf : GoodIn wsX11_key wsX0_keyOf := goodIn_r _ [18, 19, 33, 34, 35] (by decide +kernel) (by decide +kernel)
set_option maxRecDepth 20000 in
theorem gX11_key_X0_keyOf : GoodIn wsX11_key (wsV RX11 131 RX0 yX0_keyOf wsX0_keyOf) := goodIn_app (goodIn_of _ (by decide +kernel)) ggX11_key_X0_keyOf
theorem dX11_key_0 : decode cX11_key 0 = .ok (.aload_n 0, 1) := by decide +kernel
theorem dX11_key_1 : decode cX11_key 1 = .ok (.iload_n 1, 1) := by decide +kernel
theorem dX11_key_2 : decode cX11_key 2 = .ok (.invokevirtual 128, 3) := by decide +kernel
theorem dX11_key_5 : decode cX11_key 5 = .ok (.aload_n 0, 1) := by decide +kernel
theorem dX11_key_6 : decode cX11_key 6 = .ok (.getfield 10, 3) := by decide +kernel
theorem dX11_key_9 : decode cX11_key 9 = .ok (.iload_n 1, 1) := by decide +kernel
theorem dX11_key_10 : decode cX11_key 10 = .ok (.invokevirtual 131, 3) := by decide +kernel
theorem dX11_key_13 : decode cX11_key 13 = .ok (.ireturn, 1) := by decide +kernel
set_option maxRecDepth 20000 in
theorem ggX11_mark_X11_demandRecord : GoodIn wsX11_mark wsX11_demandRecord := goodIn_ca (goodIn_r _ [6, 7, 8, 1, 9, 10, 11, 12, 13, 14, 20, 21, 22, 23, 24, 25, 26, 27, 28, 29, 30, 31, 32, 33, 34, 35] (by decide +kernel) (by decide +kernel)) (goodIn_sub (fun _ h => List.mem_cons_of_mem _ (List.mem_append_right _ h)) (by decide +kernel))
set_option maxRecDepth 20000 in
theorem gX11_mark_X11_demandRecord : GoodIn wsX11_mark (wsV RX11 128 RX11 yX11_demandRecord wsX11_demandRecord) := goodIn_app (goodIn_of _ (by decide +kernel)) ggX11_mark_X11_demandRecord
set_option maxRecDepth 20000 in
theorem ggX11_mark_X0_markOf : GoodIn wsX11_mark wsX0_markOf := goodIn_r _ [18, 19, 33, 34, 35] (by decide +kernel) (by decide +kernel)
set_option maxRecDepth 20000 in
theorem gX11_mark_X0_markOf : GoodIn wsX11_mark (wsV RX11 135 RX0 yX0_markOf wsX0_markOf) := goodIn_app (goodIn_of _ (by decide +kernel)) ggX11_mark_X0_markOf
theorem dX11_mark_0 : decode cX11_mark 0 = .ok (.aload_n 0, 1) := by decide +kernel
theorem dX11_mark_1 : decode cX11_mark 1 = .ok (.iload_n 1, 1) := by decide +kernel
theorem dX11_mark_2 : decode cX11_mark 2 = .ok (.invokevirtual 128, 3) := by decide +kernel
theorem dX11_mark_5 : decode cX11_mark 5 = .ok (.aload_n 0, 1) := by decide +kernel
theorem dX11_mark_6 : decode cX11_mark 6 = .ok (.getfield 10, 3) := by decide +kernel
theorem dX11_mark_9 : decode cX11_mark 9 = .ok (.iload_n 1, 1) := by decide +kernel
theorem dX11_mark_10 : decode cX11_mark 10 = .ok (.invokevirtual 135, 3) := by decide +kernel
theorem dX11_mark_13 : decode cX11_mark 13 = .ok (.ireturn, 1) := by decide +kernel
set_option maxRecDepth 20000 in
theorem ggX11_length_X11_tapeOf : GoodIn wsX11_length wsX11_tapeOf := goodIn_ca (goodIn_r _ [5, 6, 7, 8, 11, 12, 13, 14, 15, 16, 17, 18, 19, 20, 21, 22, 23] (by decide +kernel) (by decide +kernel)) (goodIn_sub (fun _ h => List.mem_cons_of_mem _ (List.mem_append_right _ h)) (by decide +kernel))
set_option maxRecDepth 20000 in
theorem gX11_length_X11_tapeOf : GoodIn wsX11_length (wsV RX11 86 RX11 yX11_tapeOf wsX11_tapeOf) := goodIn_app (goodIn_of _ (by decide +kernel)) ggX11_length_X11_tapeOf
theorem dX11_length_0 : decode cX11_length 0 = .ok (.aload_n 0, 1) := by decide +kernel
theorem dX11_length_1 : decode cX11_length 1 = .ok (.iload_n 1, 1) := by decide +kernel
theorem dX11_length_2 : decode cX11_length 2 = .ok (.invokevirtual 86, 3) := by decide +kernel
theorem dX11_length_5 : decode cX11_length 5 = .ok (.getfield 105, 3) := by decide +kernel
theorem dX11_length_8 : decode cX11_length 8 = .ok (.ireturn, 1) := by decide +kernel
set_option maxRecDepth 20000 in
theorem ggX11_at_X11_tapeOf : GoodIn wsX11_at wsX11_tapeOf := goodIn_ca (goodIn_r _ [7, 1, 2, 8, 18, 19, 20, 21, 22, 23, 24, 25, 26, 27, 28, 29, 30] (by decide +kernel) (by decide +kernel)) (goodIn_sub (fun _ h => List.mem_cons_of_mem _ (List.mem_append_right _ h)) (by decide +kernel))
set_option maxRecDepth 20000 in
theorem gX11_at_X11_tapeOf : GoodIn wsX11_at (wsV RX11 86 RX11 yX11_tapeOf wsX11_tapeOf) := goodIn_app (goodIn_of _ (by decide +kernel)) ggX11_at_X11_tapeOf
set_option maxRecDepth 20000 in
theorem ggX11_at_X9_recordAt : GoodIn wsX11_at wsX9_recordAt := goodIn_r _ [13, 14, 15, 16, 17] (by decide +kernel) (by decide +kernel)
set_option maxRecDepth 20000 in
theorem gX11_at_X9_recordAt : GoodIn wsX11_at (wsV RX11 143 RX9 yX9_recordAt wsX9_recordAt) := goodIn_app (goodIn_of _ (by decide +kernel)) ggX11_at_X9_recordAt
theorem dX11_at_0 : decode cX11_at 0 = .ok (.aload_n 0, 1) := by decide +kernel
theorem dX11_at_1 : decode cX11_at 1 = .ok (.iload_n 1, 1) := by decide +kernel
theorem dX11_at_2 : decode cX11_at 2 = .ok (.invokevirtual 86, 3) := by decide +kernel
theorem dX11_at_5 : decode cX11_at 5 = .ok (.astore_n 3, 1) := by decide +kernel
theorem dX11_at_6 : decode cX11_at 6 = .ok (.iload_n 2, 1) := by decide +kernel
theorem dX11_at_7 : decode cX11_at 7 = .ok (.ifCond .lt 11, 3) := by decide +kernel
theorem dX11_at_10 : decode cX11_at 10 = .ok (.iload_n 2, 1) := by decide +kernel
theorem dX11_at_11 : decode cX11_at 11 = .ok (.aload_n 3, 1) := by decide +kernel
theorem dX11_at_12 : decode cX11_at 12 = .ok (.getfield 105, 3) := by decide +kernel
theorem dX11_at_15 : decode cX11_at 15 = .ok (.if_icmp .lt 13, 3) := by decide +kernel
theorem dX11_at_18 : decode cX11_at 18 = .ok (.new 138, 3) := by decide +kernel
theorem dX11_at_21 : decode cX11_at 21 = .ok (.dup, 1) := by decide +kernel
theorem dX11_at_22 : decode cX11_at 22 = .ok (.ldc 140, 2) := by decide +kernel
theorem dX11_at_24 : decode cX11_at 24 = .ok (.invokespecial 142, 3) := by decide +kernel
theorem dX11_at_27 : decode cX11_at 27 = .ok (.athrow, 1) := by decide +kernel
theorem dX11_at_28 : decode cX11_at 28 = .ok (.aload_n 3, 1) := by decide +kernel
theorem dX11_at_29 : decode cX11_at 29 = .ok (.iload_n 2, 1) := by decide +kernel
theorem dX11_at_30 : decode cX11_at 30 = .ok (.invokevirtual 143, 3) := by decide +kernel
theorem dX11_at_33 : decode cX11_at 33 = .ok (.ireturn, 1) := by decide +kernel
set_option maxRecDepth 20000 in
theorem ggX11_digest_X11_tapeOf : GoodIn wsX11_digest wsX11_tapeOf := goodIn_ca (goodIn_r _ [5, 6, 7, 8, 18, 19, 20, 21, 22, 23, 24, 25, 26, 27, 28, 29, 30] (by decide +kernel) (by decide +kernel)) (goodIn_sub (fun _ h => List.mem_cons_of_mem _ (List.mem_append_right _ h)) (by decide +kernel))
set_option maxRecDepth 20000 in
theorem gX11_digest_X11_tapeOf : GoodIn wsX11_digest (wsV RX11 86 RX11 yX11_tapeOf wsX11_tapeOf) := goodIn_app (goodIn_of _ (by decide +kernel)) ggX11_digest_X11_tapeOf
set_option maxRecDepth 20000 in
theorem ggX11_digest_X9_recordAt : GoodIn wsX11_digest wsX9_recordAt := goodIn_r _ [13, 14, 15, 16, 17] (by decide +kernel) (by decide +kernel)
set_option maxRecDepth 20000 in
theorem gX11_digest_X9_recordAt : GoodIn wsX11_digest (wsV RX11 143 RX9 yX9_recordAt wsX9_recordAt) := goodIn_app (goodIn_of _ (by decide +kernel)) ggX11_digest_X9_recordAt
theorem dX11_digest_0 : decode cX11_digest 0 = .ok (.aload_n 0, 1) := by decide +kernel
theorem dX11_digest_1 : decode cX11_digest 1 = .ok (.iload_n 1, 1) := by decide +kernel
theorem dX11_digest_2 : decode cX11_digest 2 = .ok (.invokevirtual 86, 3) := by decide +kernel
theorem dX11_digest_5 : decode cX11_digest 5 = .ok (.astore_n 2, 1) := by decide +kernel
theorem dX11_digest_6 : decode cX11_digest 6 = .ok (.bipush 7, 2) := by decide +kernel
theorem dX11_digest_8 : decode cX11_digest 8 = .ok (.istore_n 3, 1) := by decide +kernel
theorem dX11_digest_9 : decode cX11_digest 9 = .ok (.iconst 0, 1) := by decide +kernel
theorem dX11_digest_10 : decode cX11_digest 10 = .ok (.istore 4, 2) := by decide +kernel
theorem dX11_digest_12 : decode cX11_digest 12 = .ok (.iload 4, 2) := by decide +kernel
theorem dX11_digest_14 : decode cX11_digest 14 = .ok (.aload_n 2, 1) := by decide +kernel
theorem dX11_digest_15 : decode cX11_digest 15 = .ok (.getfield 105, 3) := by decide +kernel
theorem dX11_digest_18 : decode cX11_digest 18 = .ok (.if_icmp .ge 21, 3) := by decide +kernel
theorem dX11_digest_21 : decode cX11_digest 21 = .ok (.iload_n 3, 1) := by decide +kernel
theorem dX11_digest_22 : decode cX11_digest 22 = .ok (.bipush 31, 2) := by decide +kernel
theorem dX11_digest_24 : decode cX11_digest 24 = .ok (.imul, 1) := by decide +kernel
theorem dX11_digest_25 : decode cX11_digest 25 = .ok (.aload_n 2, 1) := by decide +kernel
theorem dX11_digest_26 : decode cX11_digest 26 = .ok (.iload 4, 2) := by decide +kernel
theorem dX11_digest_28 : decode cX11_digest 28 = .ok (.invokevirtual 143, 3) := by decide +kernel
theorem dX11_digest_31 : decode cX11_digest 31 = .ok (.iadd, 1) := by decide +kernel
theorem dX11_digest_32 : decode cX11_digest 32 = .ok (.istore_n 3, 1) := by decide +kernel
theorem dX11_digest_33 : decode cX11_digest 33 = .ok (.iinc 4 1, 3) := by decide +kernel
theorem dX11_digest_36 : decode cX11_digest 36 = .ok (.goto (-24), 3) := by decide +kernel
theorem dX11_digest_39 : decode cX11_digest 39 = .ok (.iload_n 3, 1) := by decide +kernel
theorem dX11_digest_40 : decode cX11_digest 40 = .ok (.ireturn, 1) := by decide +kernel
set_option maxRecDepth 20000 in
theorem ggX11_isSorted_X11_tapeOf : GoodIn wsX11_isSorted wsX11_tapeOf := goodIn_ca (goodIn_r _ [6, 7, 8, 9, 33, 34, 35, 36, 37, 38, 39, 40, 41, 42, 43, 44, 45] (by decide +kernel) (by decide +kernel)) (goodIn_sub (fun _ h => List.mem_cons_of_mem _ (List.mem_append_left _ (List.mem_append_right _ h))) (by decide +kernel))
set_option maxRecDepth 20000 in
theorem gX11_isSorted_X11_tapeOf : GoodIn wsX11_isSorted (wsV RX11 86 RX11 yX11_tapeOf wsX11_tapeOf) := goodIn_app (goodIn_of _ (by decide +kernel)) ggX11_isSorted_X11_tapeOf
set_option maxRecDepth 20000 in
theorem ggX11_isSorted_X11_demandRange : GoodIn wsX11_isSorted wsX11_demandRange := goodIn_ca (goodIn_r _ [13, 14, 15] (by decide +kernel) (by decide +kernel)) (goodIn_sub (fun _ h => List.mem_cons_of_mem _ (List.mem_append_right _ h)) (by decide +kernel))
set_option maxRecDepth 20000 in
theorem gX11_isSorted_X11_demandRange : GoodIn wsX11_isSorted (wsV RX11 90 RX11 yX11_demandRange wsX11_demandRange) := goodIn_app (goodIn_of _ (by decide +kernel)) ggX11_isSorted_X11_demandRange
set_option maxRecDepth 20000 in
theorem ggX11_isSorted_X9_isInOrder : GoodIn wsX11_isSorted wsX9_isInOrder := goodIn_r _ [20, 21, 22, 23, 24, 19, 25, 26, 27, 28, 29, 30, 31, 32, 46, 47, 48, 49, 50] (by decide +kernel) (by decide +kernel)
set_option maxRecDepth 20000 in
theorem gX11_isSorted_X9_isInOrder : GoodIn wsX11_isSorted (wsV RX11 146 RX9 yX9_isInOrder wsX9_isInOrder) := goodIn_app (goodIn_of _ (by decide +kernel)) ggX11_isSorted_X9_isInOrder
theorem dX11_isSorted_0 : decode cX11_isSorted 0 = .ok (.aload_n 0, 1) := by decide +kernel
theorem dX11_isSorted_1 : decode cX11_isSorted 1 = .ok (.iload_n 1, 1) := by decide +kernel
theorem dX11_isSorted_2 : decode cX11_isSorted 2 = .ok (.invokevirtual 86, 3) := by decide +kernel
theorem dX11_isSorted_5 : decode cX11_isSorted 5 = .ok (.astore_n 3, 1) := by decide +kernel
theorem dX11_isSorted_6 : decode cX11_isSorted 6 = .ok (.aload_n 0, 1) := by decide +kernel
theorem dX11_isSorted_7 : decode cX11_isSorted 7 = .ok (.iload_n 2, 1) := by decide +kernel
theorem dX11_isSorted_8 : decode cX11_isSorted 8 = .ok (.iconst 0, 1) := by decide +kernel
theorem dX11_isSorted_9 : decode cX11_isSorted 9 = .ok (.iconst 1, 1) := by decide +kernel
theorem dX11_isSorted_10 : decode cX11_isSorted 10 = .ok (.invokevirtual 90, 3) := by decide +kernel
theorem dX11_isSorted_13 : decode cX11_isSorted 13 = .ok (.aload_n 3, 1) := by decide +kernel
theorem dX11_isSorted_14 : decode cX11_isSorted 14 = .ok (.aload_n 0, 1) := by decide +kernel
theorem dX11_isSorted_15 : decode cX11_isSorted 15 = .ok (.getfield 10, 3) := by decide +kernel
theorem dX11_isSorted_18 : decode cX11_isSorted 18 = .ok (.iload_n 2, 1) := by decide +kernel
theorem dX11_isSorted_19 : decode cX11_isSorted 19 = .ok (.invokevirtual 146, 3) := by decide +kernel
theorem dX11_isSorted_22 : decode cX11_isSorted 22 = .ok (.ireturn, 1) := by decide +kernel
set_option maxRecDepth 20000 in
theorem ggX11_clear_X11_tapeOf : GoodIn wsX11_clear wsX11_tapeOf := goodIn_ca (goodIn_r _ [5, 6, 7, 8, 17, 18, 19, 20, 21, 22, 23, 24, 25, 26, 27, 28, 29] (by decide +kernel) (by decide +kernel)) (goodIn_sub (fun _ h => List.mem_cons_of_mem _ (List.mem_append_right _ h)) (by decide +kernel))
set_option maxRecDepth 20000 in
theorem gX11_clear_X11_tapeOf : GoodIn wsX11_clear (wsV RX11 86 RX11 yX11_tapeOf wsX11_tapeOf) := goodIn_app (goodIn_of _ (by decide +kernel)) ggX11_clear_X11_tapeOf
set_option maxRecDepth 20000 in
theorem ggX11_clear_X9_empty : GoodIn wsX11_clear wsX9_empty := goodIn_r _ [13, 14, 15, 16] (by decide +kernel) (by decide +kernel)
set_option maxRecDepth 20000 in
theorem gX11_clear_X9_empty : GoodIn wsX11_clear (wsV RX11 150 RX9 yX9_empty wsX9_empty) := goodIn_app (goodIn_of _ (by decide +kernel)) ggX11_clear_X9_empty
theorem dX11_clear_0 : decode cX11_clear 0 = .ok (.aload_n 0, 1) := by decide +kernel
theorem dX11_clear_1 : decode cX11_clear 1 = .ok (.iload_n 1, 1) := by decide +kernel
theorem dX11_clear_2 : decode cX11_clear 2 = .ok (.invokevirtual 86, 3) := by decide +kernel
theorem dX11_clear_5 : decode cX11_clear 5 = .ok (.astore_n 2, 1) := by decide +kernel
theorem dX11_clear_6 : decode cX11_clear 6 = .ok (.aload_n 2, 1) := by decide +kernel
theorem dX11_clear_7 : decode cX11_clear 7 = .ok (.getfield 105, 3) := by decide +kernel
theorem dX11_clear_10 : decode cX11_clear 10 = .ok (.istore_n 3, 1) := by decide +kernel
theorem dX11_clear_11 : decode cX11_clear 11 = .ok (.aload_n 2, 1) := by decide +kernel
theorem dX11_clear_12 : decode cX11_clear 12 = .ok (.invokevirtual 150, 3) := by decide +kernel
theorem dX11_clear_15 : decode cX11_clear 15 = .ok (.iload_n 3, 1) := by decide +kernel
theorem dX11_clear_16 : decode cX11_clear 16 = .ok (.ireturn, 1) := by decide +kernel
set_option maxRecDepth 20000 in
theorem ggX11_copy_X11_tapeOf : GoodIn wsX11_copy wsX11_tapeOf := goodIn_ca (goodIn_r _ [5, 6, 7, 8, 22, 23, 24, 25, 26, 27, 28, 29, 30, 31, 32, 33, 34] (by decide +kernel) (by decide +kernel)) (goodIn_sub (fun _ h => List.mem_cons_of_mem _ (List.mem_append_right _ h)) (by decide +kernel))
set_option maxRecDepth 20000 in
theorem gX11_copy_X11_tapeOf : GoodIn wsX11_copy (wsV RX11 86 RX11 yX11_tapeOf wsX11_tapeOf) := goodIn_app (goodIn_of _ (by decide +kernel)) ggX11_copy_X11_tapeOf
set_option maxRecDepth 20000 in
theorem ggX11_copy_X9_takeOver : GoodIn wsX11_copy wsX9_takeOver := goodIn_r _ [13, 14, 15, 16, 17, 18, 19, 20, 21] (by decide +kernel) (by decide +kernel)
set_option maxRecDepth 20000 in
theorem gX11_copy_X9_takeOver : GoodIn wsX11_copy (wsV RX11 153 RX9 yX9_takeOver wsX9_takeOver) := goodIn_app (goodIn_of _ (by decide +kernel)) ggX11_copy_X9_takeOver
theorem dX11_copy_0 : decode cX11_copy 0 = .ok (.aload_n 0, 1) := by decide +kernel
theorem dX11_copy_1 : decode cX11_copy 1 = .ok (.iload_n 1, 1) := by decide +kernel
theorem dX11_copy_2 : decode cX11_copy 2 = .ok (.invokevirtual 86, 3) := by decide +kernel
theorem dX11_copy_5 : decode cX11_copy 5 = .ok (.astore_n 3, 1) := by decide +kernel
theorem dX11_copy_6 : decode cX11_copy 6 = .ok (.aload_n 0, 1) := by decide +kernel
theorem dX11_copy_7 : decode cX11_copy 7 = .ok (.iload_n 2, 1) := by decide +kernel
theorem dX11_copy_8 : decode cX11_copy 8 = .ok (.invokevirtual 86, 3) := by decide +kernel
theorem dX11_copy_11 : decode cX11_copy 11 = .ok (.astore 4, 2) := by decide +kernel
theorem dX11_copy_13 : decode cX11_copy 13 = .ok (.aload 4, 2) := by decide +kernel
theorem dX11_copy_15 : decode cX11_copy 15 = .ok (.aload_n 3, 1) := by decide +kernel
theorem dX11_copy_16 : decode cX11_copy 16 = .ok (.invokevirtual 153, 3) := by decide +kernel
theorem dX11_copy_19 : decode cX11_copy 19 = .ok (.aload 4, 2) := by decide +kernel
theorem dX11_copy_21 : decode cX11_copy 21 = .ok (.getfield 105, 3) := by decide +kernel
theorem dX11_copy_24 : decode cX11_copy 24 = .ok (.ireturn, 1) := by decide +kernel
set_option maxRecDepth 20000 in
theorem ggX11_turn_X11_tapeOf : GoodIn wsX11_turn wsX11_tapeOf := goodIn_ca (goodIn_r _ [5, 6, 7, 8, 22, 23, 24, 25, 26, 27, 28, 29, 30, 31, 32, 33, 34] (by decide +kernel) (by decide +kernel)) (goodIn_sub (fun _ h => List.mem_cons_of_mem _ (List.mem_append_right _ h)) (by decide +kernel))
set_option maxRecDepth 20000 in
theorem gX11_turn_X11_tapeOf : GoodIn wsX11_turn (wsV RX11 86 RX11 yX11_tapeOf wsX11_tapeOf) := goodIn_app (goodIn_of _ (by decide +kernel)) ggX11_turn_X11_tapeOf
set_option maxRecDepth 20000 in
theorem ggX11_turn_X9_reverse : GoodIn wsX11_turn wsX9_reverse := goodIn_r _ [13, 14, 15, 16, 17, 18, 19, 20, 21] (by decide +kernel) (by decide +kernel)
set_option maxRecDepth 20000 in
theorem gX11_turn_X9_reverse : GoodIn wsX11_turn (wsV RX11 157 RX9 yX9_reverse wsX9_reverse) := goodIn_app (goodIn_of _ (by decide +kernel)) ggX11_turn_X9_reverse
theorem dX11_turn_0 : decode cX11_turn 0 = .ok (.aload_n 0, 1) := by decide +kernel
theorem dX11_turn_1 : decode cX11_turn 1 = .ok (.iload_n 1, 1) := by decide +kernel
theorem dX11_turn_2 : decode cX11_turn 2 = .ok (.invokevirtual 86, 3) := by decide +kernel
theorem dX11_turn_5 : decode cX11_turn 5 = .ok (.astore_n 2, 1) := by decide +kernel
theorem dX11_turn_6 : decode cX11_turn 6 = .ok (.aload_n 2, 1) := by decide +kernel
theorem dX11_turn_7 : decode cX11_turn 7 = .ok (.invokevirtual 157, 3) := by decide +kernel
theorem dX11_turn_10 : decode cX11_turn 10 = .ok (.aload_n 2, 1) := by decide +kernel
theorem dX11_turn_11 : decode cX11_turn 11 = .ok (.getfield 105, 3) := by decide +kernel
theorem dX11_turn_14 : decode cX11_turn 14 = .ok (.ireturn, 1) := by decide +kernel
set_option maxRecDepth 20000 in
theorem ggX11_setRuns_X11_demandRange : GoodIn wsX11_setRuns wsX11_demandRange := goodIn_ca (goodIn_r _ [6, 7, 8] (by decide +kernel) (by decide +kernel)) (goodIn_sub (fun _ h => List.mem_cons_of_mem _ (List.mem_append_right _ h)) (by decide +kernel))
set_option maxRecDepth 20000 in
theorem gX11_setRuns_X11_demandRange : GoodIn wsX11_setRuns (wsV RX11 90 RX11 yX11_demandRange wsX11_demandRange) := goodIn_app (goodIn_of _ (by decide +kernel)) ggX11_setRuns_X11_demandRange
theorem dX11_setRuns_0 : decode cX11_setRuns 0 = .ok (.aload_n 0, 1) := by decide +kernel
theorem dX11_setRuns_1 : decode cX11_setRuns 1 = .ok (.iload_n 1, 1) := by decide +kernel
theorem dX11_setRuns_2 : decode cX11_setRuns 2 = .ok (.iconst 0, 1) := by decide +kernel
theorem dX11_setRuns_3 : decode cX11_setRuns 3 = .ok (.iconst 1, 1) := by decide +kernel
theorem dX11_setRuns_4 : decode cX11_setRuns 4 = .ok (.invokevirtual 90, 3) := by decide +kernel
theorem dX11_setRuns_7 : decode cX11_setRuns 7 = .ok (.aload_n 0, 1) := by decide +kernel
theorem dX11_setRuns_8 : decode cX11_setRuns 8 = .ok (.iload_n 2, 1) := by decide +kernel
theorem dX11_setRuns_9 : decode cX11_setRuns 9 = .ok (.iconst 0, 1) := by decide +kernel
theorem dX11_setRuns_10 : decode cX11_setRuns 10 = .ok (.iconst 2, 1) := by decide +kernel
theorem dX11_setRuns_11 : decode cX11_setRuns 11 = .ok (.invokevirtual 90, 3) := by decide +kernel
theorem dX11_setRuns_14 : decode cX11_setRuns 14 = .ok (.aload_n 0, 1) := by decide +kernel
theorem dX11_setRuns_15 : decode cX11_setRuns 15 = .ok (.iload_n 3, 1) := by decide +kernel
theorem dX11_setRuns_16 : decode cX11_setRuns 16 = .ok (.iconst 1, 1) := by decide +kernel
theorem dX11_setRuns_17 : decode cX11_setRuns 17 = .ok (.bipush 50, 2) := by decide +kernel
theorem dX11_setRuns_19 : decode cX11_setRuns 19 = .ok (.invokevirtual 90, 3) := by decide +kernel
theorem dX11_setRuns_22 : decode cX11_setRuns 22 = .ok (.aload_n 0, 1) := by decide +kernel
theorem dX11_setRuns_23 : decode cX11_setRuns 23 = .ok (.getfield 33, 3) := by decide +kernel
theorem dX11_setRuns_26 : decode cX11_setRuns 26 = .ok (.getfield 160, 3) := by decide +kernel
theorem dX11_setRuns_29 : decode cX11_setRuns 29 = .ok (.istore 4, 2) := by decide +kernel
theorem dX11_setRuns_31 : decode cX11_setRuns 31 = .ok (.aload_n 0, 1) := by decide +kernel
theorem dX11_setRuns_32 : decode cX11_setRuns 32 = .ok (.getfield 33, 3) := by decide +kernel
theorem dX11_setRuns_35 : decode cX11_setRuns 35 = .ok (.iload_n 1, 1) := by decide +kernel
theorem dX11_setRuns_36 : decode cX11_setRuns 36 = .ok (.putfield 163, 3) := by decide +kernel
theorem dX11_setRuns_39 : decode cX11_setRuns 39 = .ok (.aload_n 0, 1) := by decide +kernel
theorem dX11_setRuns_40 : decode cX11_setRuns 40 = .ok (.getfield 33, 3) := by decide +kernel
theorem dX11_setRuns_43 : decode cX11_setRuns 43 = .ok (.iload_n 2, 1) := by decide +kernel
theorem dX11_setRuns_44 : decode cX11_setRuns 44 = .ok (.putfield 166, 3) := by decide +kernel
theorem dX11_setRuns_47 : decode cX11_setRuns 47 = .ok (.aload_n 0, 1) := by decide +kernel
theorem dX11_setRuns_48 : decode cX11_setRuns 48 = .ok (.getfield 33, 3) := by decide +kernel
theorem dX11_setRuns_51 : decode cX11_setRuns 51 = .ok (.iload_n 3, 1) := by decide +kernel
theorem dX11_setRuns_52 : decode cX11_setRuns 52 = .ok (.putfield 160, 3) := by decide +kernel
theorem dX11_setRuns_55 : decode cX11_setRuns 55 = .ok (.iload 4, 2) := by decide +kernel
theorem dX11_setRuns_57 : decode cX11_setRuns 57 = .ok (.ireturn, 1) := by decide +kernel
set_option maxRecDepth 20000 in
theorem ggX11_setMerge_X11_demandRange : GoodIn wsX11_setMerge wsX11_demandRange := goodIn_ca (goodIn_r _ [6, 7, 8] (by decide +kernel) (by decide +kernel)) (goodIn_sub (fun _ h => List.mem_cons_of_mem _ (List.mem_append_right _ h)) (by decide +kernel))
set_option maxRecDepth 20000 in
theorem gX11_setMerge_X11_demandRange : GoodIn wsX11_setMerge (wsV RX11 90 RX11 yX11_demandRange wsX11_demandRange) := goodIn_app (goodIn_of _ (by decide +kernel)) ggX11_setMerge_X11_demandRange
theorem dX11_setMerge_0 : decode cX11_setMerge 0 = .ok (.aload_n 0, 1) := by decide +kernel
theorem dX11_setMerge_1 : decode cX11_setMerge 1 = .ok (.iload_n 1, 1) := by decide +kernel
theorem dX11_setMerge_2 : decode cX11_setMerge 2 = .ok (.iconst 0, 1) := by decide +kernel
theorem dX11_setMerge_3 : decode cX11_setMerge 3 = .ok (.iconst 2, 1) := by decide +kernel
theorem dX11_setMerge_4 : decode cX11_setMerge 4 = .ok (.invokevirtual 90, 3) := by decide +kernel
theorem dX11_setMerge_7 : decode cX11_setMerge 7 = .ok (.aload_n 0, 1) := by decide +kernel
theorem dX11_setMerge_8 : decode cX11_setMerge 8 = .ok (.iload_n 2, 1) := by decide +kernel
theorem dX11_setMerge_9 : decode cX11_setMerge 9 = .ok (.iconst 2, 1) := by decide +kernel
theorem dX11_setMerge_10 : decode cX11_setMerge 10 = .ok (.bipush 6, 2) := by decide +kernel
theorem dX11_setMerge_12 : decode cX11_setMerge 12 = .ok (.invokevirtual 90, 3) := by decide +kernel
theorem dX11_setMerge_15 : decode cX11_setMerge 15 = .ok (.aload_n 0, 1) := by decide +kernel
theorem dX11_setMerge_16 : decode cX11_setMerge 16 = .ok (.getfield 33, 3) := by decide +kernel
theorem dX11_setMerge_19 : decode cX11_setMerge 19 = .ok (.getfield 169, 3) := by decide +kernel
theorem dX11_setMerge_22 : decode cX11_setMerge 22 = .ok (.istore_n 3, 1) := by decide +kernel
theorem dX11_setMerge_23 : decode cX11_setMerge 23 = .ok (.aload_n 0, 1) := by decide +kernel
theorem dX11_setMerge_24 : decode cX11_setMerge 24 = .ok (.getfield 33, 3) := by decide +kernel
theorem dX11_setMerge_27 : decode cX11_setMerge 27 = .ok (.iload_n 1, 1) := by decide +kernel
theorem dX11_setMerge_28 : decode cX11_setMerge 28 = .ok (.putfield 172, 3) := by decide +kernel
theorem dX11_setMerge_31 : decode cX11_setMerge 31 = .ok (.aload_n 0, 1) := by decide +kernel
theorem dX11_setMerge_32 : decode cX11_setMerge 32 = .ok (.getfield 33, 3) := by decide +kernel
theorem dX11_setMerge_35 : decode cX11_setMerge 35 = .ok (.iload_n 2, 1) := by decide +kernel
theorem dX11_setMerge_36 : decode cX11_setMerge 36 = .ok (.putfield 169, 3) := by decide +kernel
theorem dX11_setMerge_39 : decode cX11_setMerge 39 = .ok (.iload_n 3, 1) := by decide +kernel
theorem dX11_setMerge_40 : decode cX11_setMerge 40 = .ok (.ireturn, 1) := by decide +kernel
theorem dX11_setting_0 : decode cX11_setting 0 = .ok (.iload_n 1, 1) := by decide +kernel
theorem dX11_setting_1 : decode cX11_setting 1 = .ok (.tableswitch 75 0 4 #[35, 43, 51, 59, 67], 35) := by decide +kernel
theorem dX11_setting_36 : decode cX11_setting 36 = .ok (.aload_n 0, 1) := by decide +kernel
theorem dX11_setting_37 : decode cX11_setting 37 = .ok (.getfield 33, 3) := by decide +kernel
theorem dX11_setting_40 : decode cX11_setting 40 = .ok (.getfield 163, 3) := by decide +kernel
theorem dX11_setting_43 : decode cX11_setting 43 = .ok (.ireturn, 1) := by decide +kernel
theorem dX11_setting_44 : decode cX11_setting 44 = .ok (.aload_n 0, 1) := by decide +kernel
theorem dX11_setting_45 : decode cX11_setting 45 = .ok (.getfield 33, 3) := by decide +kernel
theorem dX11_setting_48 : decode cX11_setting 48 = .ok (.getfield 166, 3) := by decide +kernel
theorem dX11_setting_51 : decode cX11_setting 51 = .ok (.ireturn, 1) := by decide +kernel
theorem dX11_setting_52 : decode cX11_setting 52 = .ok (.aload_n 0, 1) := by decide +kernel
theorem dX11_setting_53 : decode cX11_setting 53 = .ok (.getfield 33, 3) := by decide +kernel
theorem dX11_setting_56 : decode cX11_setting 56 = .ok (.getfield 160, 3) := by decide +kernel
theorem dX11_setting_59 : decode cX11_setting 59 = .ok (.ireturn, 1) := by decide +kernel
theorem dX11_setting_60 : decode cX11_setting 60 = .ok (.aload_n 0, 1) := by decide +kernel
theorem dX11_setting_61 : decode cX11_setting 61 = .ok (.getfield 33, 3) := by decide +kernel
theorem dX11_setting_64 : decode cX11_setting 64 = .ok (.getfield 172, 3) := by decide +kernel
theorem dX11_setting_67 : decode cX11_setting 67 = .ok (.ireturn, 1) := by decide +kernel
theorem dX11_setting_68 : decode cX11_setting 68 = .ok (.aload_n 0, 1) := by decide +kernel
theorem dX11_setting_69 : decode cX11_setting 69 = .ok (.getfield 33, 3) := by decide +kernel
theorem dX11_setting_72 : decode cX11_setting 72 = .ok (.getfield 169, 3) := by decide +kernel
theorem dX11_setting_75 : decode cX11_setting 75 = .ok (.ireturn, 1) := by decide +kernel
theorem dX11_setting_76 : decode cX11_setting 76 = .ok (.new 109, 3) := by decide +kernel
theorem dX11_setting_79 : decode cX11_setting 79 = .ok (.dup, 1) := by decide +kernel
theorem dX11_setting_80 : decode cX11_setting 80 = .ok (.ldc 175, 2) := by decide +kernel
theorem dX11_setting_82 : decode cX11_setting 82 = .ok (.invokespecial 113, 3) := by decide +kernel
theorem dX11_setting_85 : decode cX11_setting 85 = .ok (.athrow, 1) := by decide +kernel
set_option maxRecDepth 20000 in
theorem ggX11_runs_X11_tapeOf : GoodIn wsX11_runs wsX11_tapeOf := goodIn_ca (goodIn_r _ [9, 10, 11, 12, 87, 88, 89, 90, 91, 92, 93, 94, 95, 96, 97, 98, 99] (by decide +kernel) (by decide +kernel)) (goodIn_sub (fun _ h => List.mem_cons_of_mem _ (List.mem_append_right _ h)) (by decide +kernel))
set_option maxRecDepth 20000 in
theorem gX11_runs_X11_tapeOf : GoodIn wsX11_runs (wsV RX11 86 RX11 yX11_tapeOf wsX11_tapeOf) := goodIn_app (goodIn_of _ (by decide +kernel)) ggX11_runs_X11_tapeOf
set_option maxRecDepth 20000 in
theorem ggX11_runs_X6_makeRuns : GoodIn wsX11_runs wsX6_makeRuns := goodIn_r _ [17, 18, 19, 20, 21, 22, 23, 24, 25, 26, 27, 28, 29, 30, 31, 32, 33, 34, 16, 35, 36, 37, 38, 39, 40, 41, 42, 43, 44, 45, 46, 47, 48, 49, 50, 51, 52, 53, 54, 55, 56, 57, 58, 59, 60, 61, 62, 63, 64, 65, 66, 67, 68, 69, 70, 71, 72, 73, 74, 75, 76, 77, 78, 79, 80, 81, 82, 83, 84, 85, 86, 105, 106, 107, 108, 109, 100, 101, 102, 103, 104, 110, 111, 112, 113, 114, 115, 116, 117] (by decide +kernel) (by decide +kernel)
set_option maxRecDepth 20000 in
theorem gX11_runs_X6_makeRuns : GoodIn wsX11_runs (wsV RX11 177 RX6 yX6_makeRuns wsX6_makeRuns) := goodIn_app (goodIn_of _ (by decide +kernel)) ggX11_runs_X6_makeRuns
theorem dX11_runs_0 : decode cX11_runs 0 = .ok (.aload_n 0, 1) := by decide +kernel
theorem dX11_runs_1 : decode cX11_runs 1 = .ok (.getfield 40, 3) := by decide +kernel
theorem dX11_runs_4 : decode cX11_runs 4 = .ok (.aload_n 0, 1) := by decide +kernel
theorem dX11_runs_5 : decode cX11_runs 5 = .ok (.getfield 10, 3) := by decide +kernel
theorem dX11_runs_8 : decode cX11_runs 8 = .ok (.aload_n 0, 1) := by decide +kernel
theorem dX11_runs_9 : decode cX11_runs 9 = .ok (.iload_n 1, 1) := by decide +kernel
theorem dX11_runs_10 : decode cX11_runs 10 = .ok (.invokevirtual 86, 3) := by decide +kernel
theorem dX11_runs_13 : decode cX11_runs 13 = .ok (.aload_n 0, 1) := by decide +kernel
theorem dX11_runs_14 : decode cX11_runs 14 = .ok (.getfield 33, 3) := by decide +kernel
theorem dX11_runs_17 : decode cX11_runs 17 = .ok (.aload_n 0, 1) := by decide +kernel
theorem dX11_runs_18 : decode cX11_runs 18 = .ok (.getfield 47, 3) := by decide +kernel
theorem dX11_runs_21 : decode cX11_runs 21 = .ok (.invokevirtual 177, 3) := by decide +kernel
theorem dX11_runs_24 : decode cX11_runs 24 = .ok (.aload_n 0, 1) := by decide +kernel
theorem dX11_runs_25 : decode cX11_runs 25 = .ok (.getfield 47, 3) := by decide +kernel
theorem dX11_runs_28 : decode cX11_runs 28 = .ok (.getfield 181, 3) := by decide +kernel
theorem dX11_runs_31 : decode cX11_runs 31 = .ok (.ireturn, 1) := by decide +kernel
set_option maxRecDepth 20000 in
theorem ggX11_runLength_X11_askForRun : GoodIn wsX11_runLength wsX11_askForRun := goodIn_ca (goodIn_r _ [6, 7, 8, 9, 10, 11, 1, 12, 13, 14, 5, 15, 16, 17, 18, 19, 20, 21, 22, 23, 24, 25, 26, 27, 28, 29, 30, 31, 32, 33, 34, 35, 36, 37, 38, 39, 40, 41, 42, 43, 44, 45, 46, 47, 48, 49, 50, 51, 52, 53, 54, 55, 56, 57, 58, 59, 60, 61, 62, 63, 64, 65, 66, 67, 68, 69, 70, 71, 72, 73, 74, 75, 76, 77, 78, 79, 80, 81, 82, 83, 84, 85, 86, 87, 88, 89, 90, 95, 96, 97, 98, 99, 100, 101, 102, 103, 104, 105, 106, 107, 108, 109, 110, 111, 112, 113, 114, 115, 116, 117, 118, 119, 120, 121, 122, 123, 124, 125] (by decide +kernel) (by decide +kernel)) (goodIn_sub (fun _ h => List.mem_cons_of_mem _ (List.mem_append_right _ h)) (by decide +kernel))
set_option maxRecDepth 20000 in
theorem gX11_runLength_X11_askForRun : GoodIn wsX11_runLength (wsV RX11 182 RX11 yX11_askForRun wsX11_askForRun) := goodIn_app (goodIn_of _ (by decide +kernel)) ggX11_runLength_X11_askForRun
set_option maxRecDepth 20000 in
theorem ggX11_runLength_X7_lengthOf : GoodIn wsX11_runLength wsX7_lengthOf := goodIn_r _ [94, 34, 64, 108, 109, 110, 111, 112] (by decide +kernel) (by decide +kernel)
set_option maxRecDepth 20000 in
theorem gX11_runLength_X7_lengthOf : GoodIn wsX11_runLength (wsV RX11 186 RX7 yX7_lengthOf wsX7_lengthOf) := goodIn_app (goodIn_of _ (by decide +kernel)) ggX11_runLength_X7_lengthOf
theorem dX11_runLength_0 : decode cX11_runLength 0 = .ok (.aload_n 0, 1) := by decide +kernel
theorem dX11_runLength_1 : decode cX11_runLength 1 = .ok (.iload_n 1, 1) := by decide +kernel
theorem dX11_runLength_2 : decode cX11_runLength 2 = .ok (.iload_n 2, 1) := by decide +kernel
theorem dX11_runLength_3 : decode cX11_runLength 3 = .ok (.invokevirtual 182, 3) := by decide +kernel
theorem dX11_runLength_6 : decode cX11_runLength 6 = .ok (.aload_n 0, 1) := by decide +kernel
theorem dX11_runLength_7 : decode cX11_runLength 7 = .ok (.getfield 47, 3) := by decide +kernel
theorem dX11_runLength_10 : decode cX11_runLength 10 = .ok (.iload_n 2, 1) := by decide +kernel
theorem dX11_runLength_11 : decode cX11_runLength 11 = .ok (.invokevirtual 186, 3) := by decide +kernel
theorem dX11_runLength_14 : decode cX11_runLength 14 = .ok (.ireturn, 1) := by decide +kernel
set_option maxRecDepth 20000 in
theorem ggX11_runAt_X11_askForRun : GoodIn wsX11_runAt wsX11_askForRun := goodIn_ca (goodIn_r _ [8, 1, 2, 9, 10, 11, 3, 12, 13, 14, 7, 15, 16, 17, 18, 19, 20, 21, 22, 23, 24, 25, 26, 27, 28, 29, 30, 31, 32, 33, 34, 35, 36, 37, 38, 39, 40, 41, 42, 43, 44, 45, 46, 47, 48, 49, 50, 51, 52, 53, 54, 55, 56, 57, 58, 59, 60, 61, 62, 63, 64, 65, 66, 67, 68, 69, 70, 71, 72, 73, 74, 75, 76, 77, 78, 79, 80, 81, 82, 83, 84, 85, 86, 87, 88, 89, 90, 102, 103, 104, 105, 106, 107, 108, 109, 110, 111, 112, 113, 114, 115, 116, 117, 118, 119, 120, 121, 122, 123, 124, 125, 126, 127, 128, 129, 130, 131, 132] (by decide +kernel) (by decide +kernel)) (goodIn_sub (fun _ h => List.mem_cons_of_mem _ (List.mem_append_right _ h)) (by decide +kernel))
set_option maxRecDepth 20000 in
theorem gX11_runAt_X11_askForRun : GoodIn wsX11_runAt (wsV RX11 182 RX11 yX11_askForRun wsX11_askForRun) := goodIn_app (goodIn_of _ (by decide +kernel)) ggX11_runAt_X11_askForRun
set_option maxRecDepth 20000 in
theorem ggX11_runAt_X7_lengthOf : GoodIn wsX11_runAt wsX7_lengthOf := goodIn_r _ [94, 34, 64, 115, 116, 117, 118, 119] (by decide +kernel) (by decide +kernel)
set_option maxRecDepth 20000 in
theorem gX11_runAt_X7_lengthOf : GoodIn wsX11_runAt (wsV RX11 186 RX7 yX7_lengthOf wsX7_lengthOf) := goodIn_app (goodIn_of _ (by decide +kernel)) ggX11_runAt_X7_lengthOf
set_option maxRecDepth 20000 in
theorem ggX11_runAt_X7_rankAt : GoodIn wsX11_runAt wsX7_rankAt := goodIn_r _ [98, 34, 64, 63, 69, 115, 116, 117, 118, 119] (by decide +kernel) (by decide +kernel)
set_option maxRecDepth 20000 in
theorem gX11_runAt_X7_rankAt : GoodIn wsX11_runAt (wsV RX11 189 RX7 yX7_rankAt wsX7_rankAt) := goodIn_app (goodIn_of _ (by decide +kernel)) ggX11_runAt_X7_rankAt
set_option maxRecDepth 20000 in
theorem ggX11_runAt_X0_recordOf : GoodIn wsX11_runAt wsX0_recordOf := goodIn_r _ [101] (by decide +kernel) (by decide +kernel)
set_option maxRecDepth 20000 in
theorem gX11_runAt_X0_recordOf : GoodIn wsX11_runAt (va_wsS RX11 192 yX0_recordOf wsX0_recordOf) := goodIn_app (goodIn_of _ (by decide +kernel)) ggX11_runAt_X0_recordOf
theorem dX11_runAt_0 : decode cX11_runAt 0 = .ok (.aload_n 0, 1) := by decide +kernel
theorem dX11_runAt_1 : decode cX11_runAt 1 = .ok (.iload_n 1, 1) := by decide +kernel
theorem dX11_runAt_2 : decode cX11_runAt 2 = .ok (.iload_n 2, 1) := by decide +kernel
theorem dX11_runAt_3 : decode cX11_runAt 3 = .ok (.invokevirtual 182, 3) := by decide +kernel
theorem dX11_runAt_6 : decode cX11_runAt 6 = .ok (.iload_n 3, 1) := by decide +kernel
theorem dX11_runAt_7 : decode cX11_runAt 7 = .ok (.ifCond .lt 15, 3) := by decide +kernel
theorem dX11_runAt_10 : decode cX11_runAt 10 = .ok (.iload_n 3, 1) := by decide +kernel
theorem dX11_runAt_11 : decode cX11_runAt 11 = .ok (.aload_n 0, 1) := by decide +kernel
theorem dX11_runAt_12 : decode cX11_runAt 12 = .ok (.getfield 47, 3) := by decide +kernel
theorem dX11_runAt_15 : decode cX11_runAt 15 = .ok (.iload_n 2, 1) := by decide +kernel
theorem dX11_runAt_16 : decode cX11_runAt 16 = .ok (.invokevirtual 186, 3) := by decide +kernel
theorem dX11_runAt_19 : decode cX11_runAt 19 = .ok (.if_icmp .lt 13, 3) := by decide +kernel
theorem dX11_runAt_22 : decode cX11_runAt 22 = .ok (.new 138, 3) := by decide +kernel
theorem dX11_runAt_25 : decode cX11_runAt 25 = .ok (.dup, 1) := by decide +kernel
theorem dX11_runAt_26 : decode cX11_runAt 26 = .ok (.ldc 140, 2) := by decide +kernel
theorem dX11_runAt_28 : decode cX11_runAt 28 = .ok (.invokespecial 142, 3) := by decide +kernel
theorem dX11_runAt_31 : decode cX11_runAt 31 = .ok (.athrow, 1) := by decide +kernel
theorem dX11_runAt_32 : decode cX11_runAt 32 = .ok (.aload_n 0, 1) := by decide +kernel
theorem dX11_runAt_33 : decode cX11_runAt 33 = .ok (.getfield 47, 3) := by decide +kernel
theorem dX11_runAt_36 : decode cX11_runAt 36 = .ok (.iload_n 2, 1) := by decide +kernel
theorem dX11_runAt_37 : decode cX11_runAt 37 = .ok (.iload_n 3, 1) := by decide +kernel
theorem dX11_runAt_38 : decode cX11_runAt 38 = .ok (.invokevirtual 189, 3) := by decide +kernel
theorem dX11_runAt_41 : decode cX11_runAt 41 = .ok (.invokestatic 192, 3) := by decide +kernel
theorem dX11_runAt_44 : decode cX11_runAt 44 = .ok (.ireturn, 1) := by decide +kernel
set_option maxRecDepth 20000 in
theorem ggX11_plan_X11_tapeOf : GoodIn wsX11_plan wsX11_tapeOf := goodIn_ca (goodIn_r _ [10, 11, 12, 13, 177, 178, 179, 180, 181, 182, 183, 184, 185, 186, 187, 188, 189] (by decide +kernel) (by decide +kernel)) (goodIn_sub (fun _ h => List.mem_cons_of_mem _ (List.mem_append_left _ (List.mem_append_right _ h))) (by decide +kernel))
set_option maxRecDepth 20000 in
theorem gX11_plan_X11_tapeOf : GoodIn wsX11_plan (wsV RX11 86 RX11 yX11_tapeOf wsX11_tapeOf) := goodIn_app (goodIn_of _ (by decide +kernel)) ggX11_plan_X11_tapeOf
set_option maxRecDepth 20000 in
theorem ggX11_plan_X11_demandRange : GoodIn wsX11_plan wsX11_demandRange := goodIn_ca (goodIn_r _ [17, 18, 19] (by decide +kernel) (by decide +kernel)) (goodIn_sub (fun _ h => List.mem_cons_of_mem _ (List.mem_append_right _ h)) (by decide +kernel))
set_option maxRecDepth 20000 in
theorem gX11_plan_X11_demandRange : GoodIn wsX11_plan (wsV RX11 90 RX11 yX11_demandRange wsX11_demandRange) := goodIn_app (goodIn_of _ (by decide +kernel)) ggX11_plan_X11_demandRange
set_option maxRecDepth 20000 in
theorem ggX11_plan_X6_makeRuns : GoodIn wsX11_plan wsX6_makeRuns := goodIn_r _ [24, 25, 26, 27, 28, 29, 30, 31, 32, 33, 34, 35, 36, 37, 38, 39, 40, 41, 23, 42, 43, 44, 45, 46, 47, 48, 49, 50, 51, 52, 53, 54, 55, 56, 57, 58, 59, 60, 61, 62, 63, 64, 65, 66, 67, 68, 69, 70, 71, 72, 73, 74, 75, 76, 77, 78, 79, 80, 81, 82, 83, 84, 85, 86, 87, 88, 89, 90, 91, 92, 93, 204, 205, 206, 207, 208, 209, 210, 211, 212, 213, 214, 215, 216, 217, 218, 219, 220, 221] (by decide +kernel) (by decide +kernel)
set_option maxRecDepth 20000 in
theorem gX11_plan_X6_makeRuns : GoodIn wsX11_plan (wsV RX11 177 RX6 yX6_makeRuns wsX6_makeRuns) := goodIn_app (goodIn_of _ (by decide +kernel)) ggX11_plan_X6_makeRuns
set_option maxRecDepth 20000 in
theorem ggX11_plan_X4_tell : GoodIn wsX11_plan wsX4_tell := goodIn_r _ [98, 99, 100, 101, 102, 103, 104, 105, 106, 107, 108, 109, 110, 26, 27, 28, 111, 30, 31, 112, 113, 114, 115, 116, 117, 118, 119, 120, 121, 122, 97, 123, 124, 125, 126, 127, 128, 35, 129, 37, 67, 130, 131, 132, 133, 134, 135, 136, 137, 138, 139, 140, 141, 142, 143, 144, 145, 146, 147, 148, 149, 150, 151, 152, 153, 154, 155, 156, 157, 158, 159, 160, 161, 162, 163, 164, 165, 166, 167, 168, 169, 170, 171, 172, 173, 174, 175, 176, 190, 191, 192, 193, 194, 195, 196, 197, 209, 210, 211, 212, 213, 204, 205, 206, 207, 208, 198, 199, 200, 201, 202, 203] (by decide +kernel) (by decide +kernel)
set_option maxRecDepth 20000 in
theorem gX11_plan_X4_tell : GoodIn wsX11_plan (wsV RX11 195 RX4 yX4_tell wsX4_tell) := goodIn_app (goodIn_of _ (by decide +kernel)) ggX11_plan_X4_tell
theorem dX11_plan_0 : decode cX11_plan 0 = .ok (.aload_n 0, 1) := by decide +kernel
theorem dX11_plan_1 : decode cX11_plan 1 = .ok (.iload_n 1, 1) := by decide +kernel
theorem dX11_plan_2 : decode cX11_plan 2 = .ok (.invokevirtual 86, 3) := by decide +kernel
theorem dX11_plan_5 : decode cX11_plan 5 = .ok (.astore_n 3, 1) := by decide +kernel
theorem dX11_plan_6 : decode cX11_plan 6 = .ok (.aload_n 0, 1) := by decide +kernel
theorem dX11_plan_7 : decode cX11_plan 7 = .ok (.iload_n 2, 1) := by decide +kernel
theorem dX11_plan_8 : decode cX11_plan 8 = .ok (.iconst 0, 1) := by decide +kernel
theorem dX11_plan_9 : decode cX11_plan 9 = .ok (.iconst 3, 1) := by decide +kernel
theorem dX11_plan_10 : decode cX11_plan 10 = .ok (.invokevirtual 90, 3) := by decide +kernel
theorem dX11_plan_13 : decode cX11_plan 13 = .ok (.aload_n 0, 1) := by decide +kernel
theorem dX11_plan_14 : decode cX11_plan 14 = .ok (.getfield 40, 3) := by decide +kernel
theorem dX11_plan_17 : decode cX11_plan 17 = .ok (.aload_n 0, 1) := by decide +kernel
theorem dX11_plan_18 : decode cX11_plan 18 = .ok (.getfield 10, 3) := by decide +kernel
theorem dX11_plan_21 : decode cX11_plan 21 = .ok (.aload_n 3, 1) := by decide +kernel
theorem dX11_plan_22 : decode cX11_plan 22 = .ok (.aload_n 0, 1) := by decide +kernel
theorem dX11_plan_23 : decode cX11_plan 23 = .ok (.getfield 33, 3) := by decide +kernel
theorem dX11_plan_26 : decode cX11_plan 26 = .ok (.aload_n 0, 1) := by decide +kernel
theorem dX11_plan_27 : decode cX11_plan 27 = .ok (.getfield 47, 3) := by decide +kernel
theorem dX11_plan_30 : decode cX11_plan 30 = .ok (.invokevirtual 177, 3) := by decide +kernel
theorem dX11_plan_33 : decode cX11_plan 33 = .ok (.aload_n 0, 1) := by decide +kernel
theorem dX11_plan_34 : decode cX11_plan 34 = .ok (.getfield 54, 3) := by decide +kernel
theorem dX11_plan_37 : decode cX11_plan 37 = .ok (.aload_n 0, 1) := by decide +kernel
theorem dX11_plan_38 : decode cX11_plan 38 = .ok (.getfield 47, 3) := by decide +kernel
theorem dX11_plan_41 : decode cX11_plan 41 = .ok (.aload_n 0, 1) := by decide +kernel
theorem dX11_plan_42 : decode cX11_plan 42 = .ok (.getfield 33, 3) := by decide +kernel
theorem dX11_plan_45 : decode cX11_plan 45 = .ok (.invokevirtual 195, 3) := by decide +kernel
theorem dX11_plan_48 : decode cX11_plan 48 = .ok (.iload_n 2, 1) := by decide +kernel
theorem dX11_plan_49 : decode cX11_plan 49 = .ok (.tableswitch 51 0 2 #[27, 35, 43], 27) := by decide +kernel
theorem dX11_plan_76 : decode cX11_plan 76 = .ok (.aload_n 0, 1) := by decide +kernel
theorem dX11_plan_77 : decode cX11_plan 77 = .ok (.getfield 54, 3) := by decide +kernel
theorem dX11_plan_80 : decode cX11_plan 80 = .ok (.getfield 199, 3) := by decide +kernel
theorem dX11_plan_83 : decode cX11_plan 83 = .ok (.ireturn, 1) := by decide +kernel
theorem dX11_plan_84 : decode cX11_plan 84 = .ok (.aload_n 0, 1) := by decide +kernel
theorem dX11_plan_85 : decode cX11_plan 85 = .ok (.getfield 54, 3) := by decide +kernel
theorem dX11_plan_88 : decode cX11_plan 88 = .ok (.getfield 202, 3) := by decide +kernel
theorem dX11_plan_91 : decode cX11_plan 91 = .ok (.ireturn, 1) := by decide +kernel
theorem dX11_plan_92 : decode cX11_plan 92 = .ok (.aload_n 0, 1) := by decide +kernel
theorem dX11_plan_93 : decode cX11_plan 93 = .ok (.getfield 54, 3) := by decide +kernel
theorem dX11_plan_96 : decode cX11_plan 96 = .ok (.getfield 205, 3) := by decide +kernel
theorem dX11_plan_99 : decode cX11_plan 99 = .ok (.ireturn, 1) := by decide +kernel
theorem dX11_plan_100 : decode cX11_plan 100 = .ok (.aload_n 0, 1) := by decide +kernel
theorem dX11_plan_101 : decode cX11_plan 101 = .ok (.getfield 54, 3) := by decide +kernel
theorem dX11_plan_104 : decode cX11_plan 104 = .ok (.getfield 208, 3) := by decide +kernel
theorem dX11_plan_107 : decode cX11_plan 107 = .ok (.getfield 212, 3) := by decide +kernel
theorem dX11_plan_110 : decode cX11_plan 110 = .ok (.ireturn, 1) := by decide +kernel
set_option maxRecDepth 20000 in
theorem ggX11_leastMoves_X11_tapeOf : GoodIn wsX11_leastMoves wsX11_tapeOf := goodIn_ca (goodIn_r _ [10, 11, 12, 13, 108, 109, 110, 111, 112, 113, 114, 115, 116, 117, 118, 119, 120] (by decide +kernel) (by decide +kernel)) (goodIn_sub (fun _ h => List.mem_cons_of_mem _ (List.mem_append_right _ h)) (by decide +kernel))
set_option maxRecDepth 20000 in
theorem gX11_leastMoves_X11_tapeOf : GoodIn wsX11_leastMoves (wsV RX11 86 RX11 yX11_tapeOf wsX11_tapeOf) := goodIn_app (goodIn_of _ (by decide +kernel)) ggX11_leastMoves_X11_tapeOf
set_option maxRecDepth 20000 in
theorem ggX11_leastMoves_X6_makeRuns : GoodIn wsX11_leastMoves wsX6_makeRuns := goodIn_r _ [18, 19, 20, 21, 22, 23, 24, 25, 26, 27, 28, 29, 30, 31, 32, 33, 34, 35, 17, 36, 37, 38, 39, 40, 41, 42, 43, 44, 45, 46, 47, 48, 49, 50, 51, 52, 53, 54, 55, 56, 57, 58, 59, 60, 61, 62, 63, 64, 65, 66, 67, 68, 69, 70, 71, 72, 73, 74, 75, 76, 77, 78, 79, 80, 81, 82, 83, 84, 85, 86, 87, 121, 122, 123, 124, 125, 126, 127, 128, 129, 130, 131, 132, 133, 134, 135, 136, 137, 138] (by decide +kernel) (by decide +kernel)
set_option maxRecDepth 20000 in
theorem gX11_leastMoves_X6_makeRuns : GoodIn wsX11_leastMoves (wsV RX11 177 RX6 yX6_makeRuns wsX6_makeRuns) := goodIn_app (goodIn_of _ (by decide +kernel)) ggX11_leastMoves_X6_makeRuns
set_option maxRecDepth 20000 in
theorem ggX11_leastMoves_X4_fewestMoves : GoodIn wsX11_leastMoves wsX4_fewestMoves := goodIn_r _ [92, 93, 94, 95, 96, 97, 91, 98, 99, 20, 21, 22, 100, 101, 102, 29, 103, 31, 61, 104, 105, 106, 107, 126, 127, 128, 129, 130, 139, 140, 141, 142, 143, 144, 145, 146] (by decide +kernel) (by decide +kernel)
set_option maxRecDepth 20000 in
theorem gX11_leastMoves_X4_fewestMoves : GoodIn wsX11_leastMoves (wsV RX11 217 RX4 yX4_fewestMoves wsX4_fewestMoves) := goodIn_app (goodIn_of _ (by decide +kernel)) ggX11_leastMoves_X4_fewestMoves
theorem dX11_leastMoves_0 : decode cX11_leastMoves 0 = .ok (.aload_n 0, 1) := by decide +kernel
theorem dX11_leastMoves_1 : decode cX11_leastMoves 1 = .ok (.getfield 40, 3) := by decide +kernel
theorem dX11_leastMoves_4 : decode cX11_leastMoves 4 = .ok (.aload_n 0, 1) := by decide +kernel
theorem dX11_leastMoves_5 : decode cX11_leastMoves 5 = .ok (.getfield 10, 3) := by decide +kernel
theorem dX11_leastMoves_8 : decode cX11_leastMoves 8 = .ok (.aload_n 0, 1) := by decide +kernel
theorem dX11_leastMoves_9 : decode cX11_leastMoves 9 = .ok (.iload_n 1, 1) := by decide +kernel
theorem dX11_leastMoves_10 : decode cX11_leastMoves 10 = .ok (.invokevirtual 86, 3) := by decide +kernel
theorem dX11_leastMoves_13 : decode cX11_leastMoves 13 = .ok (.aload_n 0, 1) := by decide +kernel
theorem dX11_leastMoves_14 : decode cX11_leastMoves 14 = .ok (.getfield 33, 3) := by decide +kernel
theorem dX11_leastMoves_17 : decode cX11_leastMoves 17 = .ok (.aload_n 0, 1) := by decide +kernel
theorem dX11_leastMoves_18 : decode cX11_leastMoves 18 = .ok (.getfield 47, 3) := by decide +kernel
theorem dX11_leastMoves_21 : decode cX11_leastMoves 21 = .ok (.invokevirtual 177, 3) := by decide +kernel
theorem dX11_leastMoves_24 : decode cX11_leastMoves 24 = .ok (.aload_n 0, 1) := by decide +kernel
theorem dX11_leastMoves_25 : decode cX11_leastMoves 25 = .ok (.getfield 54, 3) := by decide +kernel
theorem dX11_leastMoves_28 : decode cX11_leastMoves 28 = .ok (.aload_n 0, 1) := by decide +kernel
theorem dX11_leastMoves_29 : decode cX11_leastMoves 29 = .ok (.getfield 47, 3) := by decide +kernel
theorem dX11_leastMoves_32 : decode cX11_leastMoves 32 = .ok (.invokevirtual 217, 3) := by decide +kernel
theorem dX11_leastMoves_35 : decode cX11_leastMoves 35 = .ok (.ireturn, 1) := by decide +kernel
set_option maxRecDepth 20000 in
theorem ggX11_begin_X11_tapeOf : GoodIn wsX11_begin wsX11_tapeOf := goodIn_ca (goodIn_r _ [9, 10, 11, 12, 148, 149, 150, 151, 152, 153, 154, 155, 156, 157, 158, 159, 160] (by decide +kernel) (by decide +kernel)) (goodIn_sub (fun _ h => List.mem_cons_of_mem _ (List.mem_append_right _ h)) (by decide +kernel))
set_option maxRecDepth 20000 in
theorem gX11_begin_X11_tapeOf : GoodIn wsX11_begin (wsV RX11 86 RX11 yX11_tapeOf wsX11_tapeOf) := goodIn_app (goodIn_of _ (by decide +kernel)) ggX11_begin_X11_tapeOf
set_option maxRecDepth 20000 in
theorem ggX11_begin_X2_start : GoodIn wsX11_begin wsX2_start := goodIn_r _ [17, 18, 19, 20, 21, 22, 23, 24, 25, 26, 27, 28, 29, 30, 31, 32, 33, 34, 35, 36, 37, 38, 39, 40, 41, 42, 43, 44, 45, 46, 47, 48, 49, 50, 51, 52, 53, 54, 55, 56, 57, 58, 59, 60, 61, 62, 63, 64, 65, 66, 67, 68, 69, 70, 71, 72, 73, 74, 75, 76, 77, 78, 79, 80, 81, 82, 83, 84, 85, 86, 87, 88, 89, 90, 91, 92, 93, 94, 95, 96, 97, 98, 99, 100, 101, 102, 103, 104, 105, 106, 107, 108, 109, 110, 111, 112, 113, 114, 115, 116, 117, 118, 119, 120, 161, 162, 163, 164, 165, 166, 167, 168, 169, 170, 171, 172, 173, 174, 175, 176, 177, 178, 179, 180, 181, 182, 183, 184, 185, 186, 187, 188, 189, 190, 191, 192, 193, 194, 195, 196, 197, 198, 199] (by decide +kernel) (by decide +kernel)
set_option maxRecDepth 20000 in
theorem gX11_begin_X2_start : GoodIn wsX11_begin (wsV RX11 221 RX2 yX2_start wsX2_start) := goodIn_app (goodIn_of _ (by decide +kernel)) ggX11_begin_X2_start
set_option maxRecDepth 20000 in
theorem ggX11_begin_X2_isOver : GoodIn wsX11_begin wsX2_isOver := goodIn_r _ [124, 19, 161, 162, 163, 164, 165, 166, 167, 168, 169, 170, 171, 172, 173, 174, 175, 176, 177, 178, 179, 180] (by decide +kernel) (by decide +kernel)
set_option maxRecDepth 20000 in
theorem gX11_begin_X2_isOver : GoodIn wsX11_begin (wsV RX11 225 RX2 yX2_isOver wsX2_isOver) := goodIn_app (goodIn_of _ (by decide +kernel)) ggX11_begin_X2_isOver
set_option maxRecDepth 20000 in
theorem ggX11_begin_X2_writeTo : GoodIn wsX11_begin wsX2_writeTo := goodIn_r _ [128, 19, 129, 130, 131, 57, 132, 59, 133, 134, 135, 44, 136, 46, 76, 137, 138, 139, 140, 75, 81, 141, 142, 64, 143, 144, 145, 146, 147, 60, 161, 162, 163, 164, 165, 166, 167, 168, 169, 170, 171, 172, 173, 174, 175, 181, 182, 176, 177, 178, 179, 180] (by decide +kernel) (by decide +kernel)
set_option maxRecDepth 20000 in
theorem gX11_begin_X2_writeTo : GoodIn wsX11_begin (wsV RX11 229 RX2 yX2_writeTo wsX2_writeTo) := goodIn_app (goodIn_of _ (by decide +kernel)) ggX11_begin_X2_writeTo
theorem dX11_begin_0 : decode cX11_begin 0 = .ok (.aload_n 0, 1) := by decide +kernel
theorem dX11_begin_1 : decode cX11_begin 1 = .ok (.iload_n 1, 1) := by decide +kernel
theorem dX11_begin_2 : decode cX11_begin 2 = .ok (.invokevirtual 86, 3) := by decide +kernel
theorem dX11_begin_5 : decode cX11_begin 5 = .ok (.astore_n 3, 1) := by decide +kernel
theorem dX11_begin_6 : decode cX11_begin 6 = .ok (.aload_n 0, 1) := by decide +kernel
theorem dX11_begin_7 : decode cX11_begin 7 = .ok (.iload_n 2, 1) := by decide +kernel
theorem dX11_begin_8 : decode cX11_begin 8 = .ok (.invokevirtual 86, 3) := by decide +kernel
theorem dX11_begin_11 : decode cX11_begin 11 = .ok (.astore 4, 2) := by decide +kernel
theorem dX11_begin_13 : decode cX11_begin 13 = .ok (.aload_n 0, 1) := by decide +kernel
theorem dX11_begin_14 : decode cX11_begin 14 = .ok (.getfield 61, 3) := by decide +kernel
theorem dX11_begin_17 : decode cX11_begin 17 = .ok (.aload_n 0, 1) := by decide +kernel
theorem dX11_begin_18 : decode cX11_begin 18 = .ok (.getfield 10, 3) := by decide +kernel
theorem dX11_begin_21 : decode cX11_begin 21 = .ok (.aload_n 3, 1) := by decide +kernel
theorem dX11_begin_22 : decode cX11_begin 22 = .ok (.iload_n 2, 1) := by decide +kernel
theorem dX11_begin_23 : decode cX11_begin 23 = .ok (.aload_n 0, 1) := by decide +kernel
theorem dX11_begin_24 : decode cX11_begin 24 = .ok (.getfield 33, 3) := by decide +kernel
theorem dX11_begin_27 : decode cX11_begin 27 = .ok (.invokevirtual 221, 3) := by decide +kernel
theorem dX11_begin_30 : decode cX11_begin 30 = .ok (.istore 5, 2) := by decide +kernel
theorem dX11_begin_32 : decode cX11_begin 32 = .ok (.aload_n 0, 1) := by decide +kernel
theorem dX11_begin_33 : decode cX11_begin 33 = .ok (.iconst 1, 1) := by decide +kernel
theorem dX11_begin_34 : decode cX11_begin 34 = .ok (.putfield 82, 3) := by decide +kernel
theorem dX11_begin_37 : decode cX11_begin 37 = .ok (.aload_n 0, 1) := by decide +kernel
theorem dX11_begin_38 : decode cX11_begin 38 = .ok (.getfield 61, 3) := by decide +kernel
theorem dX11_begin_41 : decode cX11_begin 41 = .ok (.invokevirtual 225, 3) := by decide +kernel
theorem dX11_begin_44 : decode cX11_begin 44 = .ok (.ifCond .eq 12, 3) := by decide +kernel
theorem dX11_begin_47 : decode cX11_begin 47 = .ok (.aload_n 0, 1) := by decide +kernel
theorem dX11_begin_48 : decode cX11_begin 48 = .ok (.getfield 61, 3) := by decide +kernel
theorem dX11_begin_51 : decode cX11_begin 51 = .ok (.aload 4, 2) := by decide +kernel
theorem dX11_begin_53 : decode cX11_begin 53 = .ok (.invokevirtual 229, 3) := by decide +kernel
theorem dX11_begin_56 : decode cX11_begin 56 = .ok (.iload 5, 2) := by decide +kernel
theorem dX11_begin_58 : decode cX11_begin 58 = .ok (.ireturn, 1) := by decide +kernel
set_option maxRecDepth 20000 in
theorem ggX11_work_X11_demandRange : GoodIn wsX11_work wsX11_demandRange := goodIn_ca (goodIn_r _ [6, 7, 8] (by decide +kernel) (by decide +kernel)) (goodIn_sub (fun _ h => List.mem_cons_of_mem _ (List.mem_append_left _ (List.mem_append_left _ (List.mem_append_right _ h)))) (by decide +kernel))
set_option maxRecDepth 20000 in
theorem gX11_work_X11_demandRange : GoodIn wsX11_work (wsV RX11 90 RX11 yX11_demandRange wsX11_demandRange) := goodIn_app (goodIn_of _ (by decide +kernel)) ggX11_work_X11_demandRange
set_option maxRecDepth 20000 in
theorem ggX11_work_X11_demandJobUnderWay : GoodIn wsX11_work wsX11_demandJobUnderWay := goodIn_ca (goodIn_r _ [12, 13, 14, 15, 1, 16, 17, 18, 19, 20, 21, 150, 151, 152, 153, 154, 155, 156, 157, 158, 159, 160, 161, 162, 163, 164, 165, 166, 167, 168, 169, 170, 171, 172, 173, 174, 175, 176, 177, 178, 179, 180, 181, 182] (by decide +kernel) (by decide +kernel)) (goodIn_sub (fun _ h => List.mem_cons_of_mem _ (List.mem_append_left _ (List.mem_append_right _ h))) (by decide +kernel))
set_option maxRecDepth 20000 in
theorem gX11_work_X11_demandJobUnderWay : GoodIn wsX11_work (wsV RX11 232 RX11 yX11_demandJobUnderWay wsX11_demandJobUnderWay) := goodIn_app (goodIn_of _ (by decide +kernel)) ggX11_work_X11_demandJobUnderWay
set_option maxRecDepth 20000 in
theorem ggX11_work_X2_isOver : GoodIn wsX11_work wsX2_isOver := goodIn_r _ [20, 21, 163, 164, 165, 166, 167, 168, 169, 170, 171, 172, 173, 174, 175, 176, 177, 178, 179, 180, 181, 182] (by decide +kernel) (by decide +kernel)
set_option maxRecDepth 20000 in
theorem gX11_work_X2_isOver : GoodIn wsX11_work (wsV RX11 225 RX2 yX2_isOver wsX2_isOver) := goodIn_app (goodIn_of _ (by decide +kernel)) ggX11_work_X2_isOver
set_option maxRecDepth 20000 in
theorem ggX11_work_X2_doMerge : GoodIn wsX11_work wsX2_doMerge := goodIn_r _ [25, 26, 27, 21, 28, 29, 30, 31, 32, 33, 34, 35, 36, 37, 38, 39, 40, 41, 42, 43, 44, 45, 46, 47, 48, 49, 50, 51, 52, 53, 54, 55, 56, 57, 58, 59, 19, 60, 61, 62, 63, 64, 65, 66, 67, 68, 69, 70, 71, 72, 73, 74, 75, 76, 77, 78, 79, 80, 81, 82, 83, 84, 85, 86, 87, 88, 89, 90, 91, 92, 93, 94, 95, 96, 97, 98, 99, 100, 101, 102, 103, 104, 105, 106, 107, 108, 109, 110, 111, 112, 113, 114, 115, 116, 117, 118, 119, 120, 121, 122, 123, 163, 164, 165, 166, 167, 168, 169, 170, 171, 172, 173, 174, 175, 176, 177, 178, 179, 180, 181, 182, 183, 184, 185, 186, 187, 188] (by decide +kernel) (by decide +kernel)
set_option maxRecDepth 20000 in
theorem gX11_work_X2_doMerge : GoodIn wsX11_work (wsV RX11 235 RX2 yX2_doMerge wsX2_doMerge) := goodIn_app (goodIn_of _ (by decide +kernel)) ggX11_work_X2_doMerge
set_option maxRecDepth 20000 in
theorem ggX11_work_X11_tapeOf : GoodIn wsX11_work wsX11_tapeOf := goodIn_ca (goodIn_r _ [127, 128, 129, 130, 150, 151, 152, 153, 154, 155, 156, 157, 158, 159, 160, 161, 162] (by decide +kernel) (by decide +kernel)) (goodIn_sub (fun _ h => List.mem_cons_of_mem _ (List.mem_append_right _ h)) (by decide +kernel))
set_option maxRecDepth 20000 in
theorem gX11_work_X11_tapeOf : GoodIn wsX11_work (wsV RX11 86 RX11 yX11_tapeOf wsX11_tapeOf) := goodIn_app (goodIn_of _ (by decide +kernel)) ggX11_work_X11_tapeOf
set_option maxRecDepth 20000 in
theorem ggX11_work_X2_writeTo : GoodIn wsX11_work wsX2_writeTo := goodIn_r _ [134, 21, 135, 136, 137, 138, 139, 140, 68, 69, 70, 71, 72, 73, 74, 85, 86, 87, 88, 79, 89, 141, 142, 143, 144, 145, 146, 147, 148, 149, 163, 164, 165, 166, 167, 168, 169, 170, 171, 172, 173, 174, 175, 176, 177, 189, 190, 178, 179, 180, 181, 182] (by decide +kernel) (by decide +kernel)
set_option maxRecDepth 20000 in
theorem gX11_work_X2_writeTo : GoodIn wsX11_work (wsV RX11 229 RX2 yX2_writeTo wsX2_writeTo) := goodIn_app (goodIn_of _ (by decide +kernel)) ggX11_work_X2_writeTo
theorem dX11_work_0 : decode cX11_work 0 = .ok (.aload_n 0, 1) := by decide +kernel
theorem dX11_work_1 : decode cX11_work 1 = .ok (.iload_n 1, 1) := by decide +kernel
theorem dX11_work_2 : decode cX11_work 2 = .ok (.iconst 1, 1) := by decide +kernel
theorem dX11_work_3 : decode cX11_work 3 = .ok (.sipush 200, 3) := by decide +kernel
theorem dX11_work_6 : decode cX11_work 6 = .ok (.invokevirtual 90, 3) := by decide +kernel
theorem dX11_work_9 : decode cX11_work 9 = .ok (.aload_n 0, 1) := by decide +kernel
theorem dX11_work_10 : decode cX11_work 10 = .ok (.invokevirtual 232, 3) := by decide +kernel
theorem dX11_work_13 : decode cX11_work 13 = .ok (.iconst 0, 1) := by decide +kernel
theorem dX11_work_14 : decode cX11_work 14 = .ok (.istore_n 2, 1) := by decide +kernel
theorem dX11_work_15 : decode cX11_work 15 = .ok (.iload_n 2, 1) := by decide +kernel
theorem dX11_work_16 : decode cX11_work 16 = .ok (.iload_n 1, 1) := by decide +kernel
theorem dX11_work_17 : decode cX11_work 17 = .ok (.if_icmp .ge 26, 3) := by decide +kernel
theorem dX11_work_20 : decode cX11_work 20 = .ok (.aload_n 0, 1) := by decide +kernel
theorem dX11_work_21 : decode cX11_work 21 = .ok (.getfield 61, 3) := by decide +kernel
theorem dX11_work_24 : decode cX11_work 24 = .ok (.invokevirtual 225, 3) := by decide +kernel
theorem dX11_work_27 : decode cX11_work 27 = .ok (.ifCond .ne 16, 3) := by decide +kernel
theorem dX11_work_30 : decode cX11_work 30 = .ok (.aload_n 0, 1) := by decide +kernel
theorem dX11_work_31 : decode cX11_work 31 = .ok (.getfield 61, 3) := by decide +kernel
theorem dX11_work_34 : decode cX11_work 34 = .ok (.invokevirtual 235, 3) := by decide +kernel
theorem dX11_work_37 : decode cX11_work 37 = .ok (.iinc 2 1, 3) := by decide +kernel
theorem dX11_work_40 : decode cX11_work 40 = .ok (.goto (-25), 3) := by decide +kernel
theorem dX11_work_43 : decode cX11_work 43 = .ok (.aload_n 0, 1) := by decide +kernel
theorem dX11_work_44 : decode cX11_work 44 = .ok (.getfield 61, 3) := by decide +kernel
theorem dX11_work_47 : decode cX11_work 47 = .ok (.invokevirtual 225, 3) := by decide +kernel
theorem dX11_work_50 : decode cX11_work 50 = .ok (.ifCond .eq 21, 3) := by decide +kernel
theorem dX11_work_53 : decode cX11_work 53 = .ok (.aload_n 0, 1) := by decide +kernel
theorem dX11_work_54 : decode cX11_work 54 = .ok (.getfield 61, 3) := by decide +kernel
theorem dX11_work_57 : decode cX11_work 57 = .ok (.aload_n 0, 1) := by decide +kernel
theorem dX11_work_58 : decode cX11_work 58 = .ok (.aload_n 0, 1) := by decide +kernel
theorem dX11_work_59 : decode cX11_work 59 = .ok (.getfield 61, 3) := by decide +kernel
theorem dX11_work_62 : decode cX11_work 62 = .ok (.getfield 238, 3) := by decide +kernel
theorem dX11_work_65 : decode cX11_work 65 = .ok (.invokevirtual 86, 3) := by decide +kernel
theorem dX11_work_68 : decode cX11_work 68 = .ok (.invokevirtual 229, 3) := by decide +kernel
theorem dX11_work_71 : decode cX11_work 71 = .ok (.iload_n 2, 1) := by decide +kernel
theorem dX11_work_72 : decode cX11_work 72 = .ok (.ireturn, 1) := by decide +kernel
set_option maxRecDepth 20000 in
theorem ggX11_tear_X11_demandJobUnderWay : GoodIn wsX11_tear wsX11_demandJobUnderWay := goodIn_ca (goodIn_r _ [6, 7, 8, 9, 1, 10, 11, 12, 13, 14, 15, 31, 32, 33, 34, 35, 36, 37, 38, 39, 40, 41, 42, 43, 44, 45, 46, 47, 48, 49, 50, 51, 52, 53, 54, 55, 56, 57, 58, 59, 60, 61, 62, 63] (by decide +kernel) (by decide +kernel)) (goodIn_sub (fun _ h => List.mem_cons_of_mem _ (List.mem_append_right _ h)) (by decide +kernel))
set_option maxRecDepth 20000 in
theorem gX11_tear_X11_demandJobUnderWay : GoodIn wsX11_tear (wsV RX11 232 RX11 yX11_demandJobUnderWay wsX11_demandJobUnderWay) := goodIn_app (goodIn_of _ (by decide +kernel)) ggX11_tear_X11_demandJobUnderWay
set_option maxRecDepth 20000 in
theorem ggX11_tear_X2_losePass : GoodIn wsX11_tear wsX2_losePass := goodIn_r _ [19, 20, 21, 22, 23, 24, 25, 26, 27, 28, 29, 30, 44, 45, 46, 47, 48, 49, 50, 51, 52, 53, 54, 55, 56, 57, 58, 59, 60, 61, 62, 63] (by decide +kernel) (by decide +kernel)
set_option maxRecDepth 20000 in
theorem gX11_tear_X2_losePass : GoodIn wsX11_tear (wsV RX11 241 RX2 yX2_losePass wsX2_losePass) := goodIn_app (goodIn_of _ (by decide +kernel)) ggX11_tear_X2_losePass
theorem dX11_tear_0 : decode cX11_tear 0 = .ok (.aload_n 0, 1) := by decide +kernel
theorem dX11_tear_1 : decode cX11_tear 1 = .ok (.invokevirtual 232, 3) := by decide +kernel
theorem dX11_tear_4 : decode cX11_tear 4 = .ok (.aload_n 0, 1) := by decide +kernel
theorem dX11_tear_5 : decode cX11_tear 5 = .ok (.getfield 61, 3) := by decide +kernel
theorem dX11_tear_8 : decode cX11_tear 8 = .ok (.invokevirtual 241, 3) := by decide +kernel
theorem dX11_tear_11 : decode cX11_tear 11 = .ok (.ireturn, 1) := by decide +kernel
set_option maxRecDepth 20000 in
theorem ggX11_job_X11_demandRange : GoodIn wsX11_job wsX11_demandRange := goodIn_ca (goodIn_r _ [9, 10, 11] (by decide +kernel) (by decide +kernel)) (goodIn_sub (fun _ h => List.mem_cons_of_mem _ (List.mem_append_right _ h)) (by decide +kernel))
set_option maxRecDepth 20000 in
theorem gX11_job_X11_demandRange : GoodIn wsX11_job (wsV RX11 90 RX11 yX11_demandRange wsX11_demandRange) := goodIn_app (goodIn_of _ (by decide +kernel)) ggX11_job_X11_demandRange
set_option maxRecDepth 20000 in
theorem ggX11_job_X2_isOver : GoodIn wsX11_job wsX2_isOver := goodIn_r _ [16, 17, 43, 44, 45, 46, 47, 48, 49, 50, 51, 52, 53, 54, 55, 56, 57, 58, 59, 60, 61, 62] (by decide +kernel) (by decide +kernel)
set_option maxRecDepth 20000 in
theorem gX11_job_X2_isOver : GoodIn wsX11_job (wsV RX11 225 RX2 yX2_isOver wsX2_isOver) := goodIn_app (goodIn_of _ (by decide +kernel)) ggX11_job_X2_isOver
set_option maxRecDepth 20000 in
theorem ggX11_job_X2_runsLeft : GoodIn wsX11_job wsX2_runsLeft := goodIn_r _ [21, 22, 17, 23, 24, 25, 26, 27, 28, 29, 43, 44, 45, 46, 47, 48, 49, 50, 51, 52, 53, 54, 55, 56, 57, 58, 59, 60, 61, 62, 63, 64, 65, 66, 67, 68] (by decide +kernel) (by decide +kernel)
set_option maxRecDepth 20000 in
theorem gX11_job_X2_runsLeft : GoodIn wsX11_job (wsV RX11 250 RX2 yX2_runsLeft wsX2_runsLeft) := goodIn_app (goodIn_of _ (by decide +kernel)) ggX11_job_X2_runsLeft
theorem dX11_job_0 : decode cX11_job 0 = .ok (.aload_n 0, 1) := by decide +kernel
theorem dX11_job_1 : decode cX11_job 1 = .ok (.iload_n 1, 1) := by decide +kernel
theorem dX11_job_2 : decode cX11_job 2 = .ok (.iconst 0, 1) := by decide +kernel
theorem dX11_job_3 : decode cX11_job 3 = .ok (.bipush 7, 2) := by decide +kernel
theorem dX11_job_5 : decode cX11_job 5 = .ok (.invokevirtual 90, 3) := by decide +kernel
theorem dX11_job_8 : decode cX11_job 8 = .ok (.aload_n 0, 1) := by decide +kernel
theorem dX11_job_9 : decode cX11_job 9 = .ok (.getfield 82, 3) := by decide +kernel
theorem dX11_job_12 : decode cX11_job 12 = .ok (.ifCond .ne 13, 3) := by decide +kernel
theorem dX11_job_15 : decode cX11_job 15 = .ok (.new 245, 3) := by decide +kernel
theorem dX11_job_18 : decode cX11_job 18 = .ok (.dup, 1) := by decide +kernel
theorem dX11_job_19 : decode cX11_job 19 = .ok (.ldc 247, 2) := by decide +kernel
theorem dX11_job_21 : decode cX11_job 21 = .ok (.invokespecial 249, 3) := by decide +kernel
theorem dX11_job_24 : decode cX11_job 24 = .ok (.athrow, 1) := by decide +kernel
theorem dX11_job_25 : decode cX11_job 25 = .ok (.iload_n 1, 1) := by decide +kernel
theorem dX11_job_26 : decode cX11_job 26 = .ok (.tableswitch 106 0 6 #[42, 50, 66, 74, 82, 90, 98], 42) := by decide +kernel
theorem dX11_job_68 : decode cX11_job 68 = .ok (.aload_n 0, 1) := by decide +kernel
theorem dX11_job_69 : decode cX11_job 69 = .ok (.getfield 61, 3) := by decide +kernel
theorem dX11_job_72 : decode cX11_job 72 = .ok (.getfield 238, 3) := by decide +kernel
theorem dX11_job_75 : decode cX11_job 75 = .ok (.ireturn, 1) := by decide +kernel
theorem dX11_job_76 : decode cX11_job 76 = .ok (.aload_n 0, 1) := by decide +kernel
theorem dX11_job_77 : decode cX11_job 77 = .ok (.getfield 61, 3) := by decide +kernel
theorem dX11_job_80 : decode cX11_job 80 = .ok (.invokevirtual 225, 3) := by decide +kernel
theorem dX11_job_83 : decode cX11_job 83 = .ok (.ifCond .eq 7, 3) := by decide +kernel
theorem dX11_job_86 : decode cX11_job 86 = .ok (.iconst 1, 1) := by decide +kernel
theorem dX11_job_87 : decode cX11_job 87 = .ok (.goto 4, 3) := by decide +kernel
theorem dX11_job_90 : decode cX11_job 90 = .ok (.iconst 0, 1) := by decide +kernel
theorem dX11_job_91 : decode cX11_job 91 = .ok (.ireturn, 1) := by decide +kernel
theorem dX11_job_92 : decode cX11_job 92 = .ok (.aload_n 0, 1) := by decide +kernel
theorem dX11_job_93 : decode cX11_job 93 = .ok (.getfield 61, 3) := by decide +kernel
theorem dX11_job_96 : decode cX11_job 96 = .ok (.invokevirtual 250, 3) := by decide +kernel
theorem dX11_job_99 : decode cX11_job 99 = .ok (.ireturn, 1) := by decide +kernel
theorem dX11_job_100 : decode cX11_job 100 = .ok (.aload_n 0, 1) := by decide +kernel
theorem dX11_job_101 : decode cX11_job 101 = .ok (.getfield 61, 3) := by decide +kernel
theorem dX11_job_104 : decode cX11_job 104 = .ok (.getfield 253, 3) := by decide +kernel
theorem dX11_job_107 : decode cX11_job 107 = .ok (.ireturn, 1) := by decide +kernel
theorem dX11_job_108 : decode cX11_job 108 = .ok (.aload_n 0, 1) := by decide +kernel
theorem dX11_job_109 : decode cX11_job 109 = .ok (.getfield 61, 3) := by decide +kernel
theorem dX11_job_112 : decode cX11_job 112 = .ok (.getfield 254, 3) := by decide +kernel
theorem dX11_job_115 : decode cX11_job 115 = .ok (.ireturn, 1) := by decide +kernel
theorem dX11_job_116 : decode cX11_job 116 = .ok (.aload_n 0, 1) := by decide +kernel
theorem dX11_job_117 : decode cX11_job 117 = .ok (.getfield 61, 3) := by decide +kernel
theorem dX11_job_120 : decode cX11_job 120 = .ok (.getfield 255, 3) := by decide +kernel
theorem dX11_job_123 : decode cX11_job 123 = .ok (.ireturn, 1) := by decide +kernel
theorem dX11_job_124 : decode cX11_job 124 = .ok (.aload_n 0, 1) := by decide +kernel
theorem dX11_job_125 : decode cX11_job 125 = .ok (.getfield 61, 3) := by decide +kernel
theorem dX11_job_128 : decode cX11_job 128 = .ok (.getfield 256, 3) := by decide +kernel
theorem dX11_job_131 : decode cX11_job 131 = .ok (.ireturn, 1) := by decide +kernel
theorem dX11_job_132 : decode cX11_job 132 = .ok (.aload_n 0, 1) := by decide +kernel
theorem dX11_job_133 : decode cX11_job 133 = .ok (.getfield 61, 3) := by decide +kernel
theorem dX11_job_136 : decode cX11_job 136 = .ok (.getfield 259, 3) := by decide +kernel
theorem dX11_job_139 : decode cX11_job 139 = .ok (.ireturn, 1) := by decide +kernel
set_option maxRecDepth 20000 in
theorem ggX11_sort_X11_tapeOf : GoodIn wsX11_sort wsX11_tapeOf := goodIn_ca (goodIn_r _ [8, 9, 10, 11, 213, 214, 215, 216, 217, 218, 219, 220, 221, 222, 223, 224, 225] (by decide +kernel) (by decide +kernel)) (goodIn_sub (fun _ h => List.mem_cons_of_mem _ (List.mem_append_right _ h)) (by decide +kernel))
set_option maxRecDepth 20000 in
theorem gX11_sort_X11_tapeOf : GoodIn wsX11_sort (wsV RX11 86 RX11 yX11_tapeOf wsX11_tapeOf) := goodIn_app (goodIn_of _ (by decide +kernel)) ggX11_sort_X11_tapeOf
set_option maxRecDepth 20000 in
theorem ggX11_sort_X2_doWhole : GoodIn wsX11_sort wsX2_doWhole := goodIn_r _ [16, 17, 18, 19, 15, 20, 21, 22, 23, 24, 25, 26, 27, 28, 29, 30, 31, 32, 33, 34, 35, 36, 37, 38, 39, 40, 41, 42, 43, 44, 45, 46, 47, 48, 49, 50, 51, 52, 53, 54, 55, 56, 57, 58, 59, 60, 61, 62, 63, 64, 65, 66, 67, 68, 69, 70, 71, 72, 73, 74, 75, 76, 77, 78, 79, 80, 81, 82, 83, 84, 85, 86, 87, 88, 89, 90, 91, 92, 93, 94, 95, 96, 97, 98, 99, 100, 101, 102, 103, 104, 105, 106, 107, 108, 109, 110, 111, 112, 113, 114, 115, 116, 117, 118, 119, 120, 121, 122, 123, 124, 125, 126, 127, 128, 129, 130, 131, 132, 133, 134, 135, 136, 137, 138, 139, 140, 141, 142, 143, 144, 145, 146, 147, 148, 149, 150, 151, 152, 153, 154, 155, 156, 157, 158, 159, 160, 161, 162, 163, 164, 165, 166, 167, 168, 169, 170, 171, 172, 173, 174, 175, 176, 177, 178, 179, 180, 181, 182, 183, 184, 185, 186, 187, 188, 189, 190, 191, 192, 193, 194, 195, 196, 197, 198, 199, 200, 201, 202, 203, 204, 205, 206, 207, 208, 209, 210, 211, 212, 226, 227, 228, 229, 230, 231, 232, 233, 234, 235, 236, 237, 238, 239, 240, 241, 242, 243, 244, 245, 246, 247, 248, 249, 250, 251, 252, 253, 254, 255, 256, 257, 258, 259, 260, 261, 262, 263, 264] (by decide +kernel) (by decide +kernel)
set_option maxRecDepth 20000 in
theorem gX11_sort_X2_doWhole : GoodIn wsX11_sort (wsV RX11 262 RX2 yX2_doWhole wsX2_doWhole) := goodIn_app (goodIn_of _ (by decide +kernel)) ggX11_sort_X2_doWhole
theorem dX11_sort_0 : decode cX11_sort 0 = .ok (.aload_n 0, 1) := by decide +kernel
theorem dX11_sort_1 : decode cX11_sort 1 = .ok (.iload_n 1, 1) := by decide +kernel
theorem dX11_sort_2 : decode cX11_sort 2 = .ok (.invokevirtual 86, 3) := by decide +kernel
theorem dX11_sort_5 : decode cX11_sort 5 = .ok (.astore_n 3, 1) := by decide +kernel
theorem dX11_sort_6 : decode cX11_sort 6 = .ok (.aload_n 0, 1) := by decide +kernel
theorem dX11_sort_7 : decode cX11_sort 7 = .ok (.iload_n 2, 1) := by decide +kernel
theorem dX11_sort_8 : decode cX11_sort 8 = .ok (.invokevirtual 86, 3) := by decide +kernel
theorem dX11_sort_11 : decode cX11_sort 11 = .ok (.astore 4, 2) := by decide +kernel
theorem dX11_sort_13 : decode cX11_sort 13 = .ok (.aload_n 0, 1) := by decide +kernel
theorem dX11_sort_14 : decode cX11_sort 14 = .ok (.getfield 65, 3) := by decide +kernel
theorem dX11_sort_17 : decode cX11_sort 17 = .ok (.aload_n 0, 1) := by decide +kernel
theorem dX11_sort_18 : decode cX11_sort 18 = .ok (.getfield 10, 3) := by decide +kernel
theorem dX11_sort_21 : decode cX11_sort 21 = .ok (.aload_n 3, 1) := by decide +kernel
theorem dX11_sort_22 : decode cX11_sort 22 = .ok (.aload 4, 2) := by decide +kernel
theorem dX11_sort_24 : decode cX11_sort 24 = .ok (.aload_n 0, 1) := by decide +kernel
theorem dX11_sort_25 : decode cX11_sort 25 = .ok (.getfield 33, 3) := by decide +kernel
theorem dX11_sort_28 : decode cX11_sort 28 = .ok (.invokevirtual 262, 3) := by decide +kernel
theorem dX11_sort_31 : decode cX11_sort 31 = .ok (.aload_n 0, 1) := by decide +kernel
theorem dX11_sort_32 : decode cX11_sort 32 = .ok (.getfield 65, 3) := by decide +kernel
theorem dX11_sort_35 : decode cX11_sort 35 = .ok (.getfield 255, 3) := by decide +kernel
theorem dX11_sort_38 : decode cX11_sort 38 = .ok (.ireturn, 1) := by decide +kernel
set_option maxRecDepth 20000 in
theorem ggX11_combine_X11_tapeOf : GoodIn wsX11_combine wsX11_tapeOf := goodIn_ca (goodIn_r _ [7, 8, 9, 10, 78, 79, 80, 81, 82, 83, 84, 85, 86, 87, 88, 89, 90] (by decide +kernel) (by decide +kernel)) (goodIn_sub (fun _ h => List.mem_cons_of_mem _ (List.mem_append_left _ (List.mem_append_right _ h))) (by decide +kernel))
set_option maxRecDepth 20000 in
theorem gX11_combine_X11_tapeOf : GoodIn wsX11_combine (wsV RX11 86 RX11 yX11_tapeOf wsX11_tapeOf) := goodIn_app (goodIn_of _ (by decide +kernel)) ggX11_combine_X11_tapeOf
set_option maxRecDepth 20000 in
theorem ggX11_combine_X11_demandRange : GoodIn wsX11_combine wsX11_demandRange := goodIn_ca (goodIn_r _ [14, 15, 16] (by decide +kernel) (by decide +kernel)) (goodIn_sub (fun _ h => List.mem_cons_of_mem _ (List.mem_append_right _ h)) (by decide +kernel))
set_option maxRecDepth 20000 in
theorem gX11_combine_X11_demandRange : GoodIn wsX11_combine (wsV RX11 90 RX11 yX11_demandRange wsX11_demandRange) := goodIn_app (goodIn_of _ (by decide +kernel)) ggX11_combine_X11_demandRange
set_option maxRecDepth 20000 in
theorem ggX11_combine_X11_join : GoodIn wsX11_combine wsX11_join := goodIn_r _ [20, 21, 22, 23, 24, 25, 26, 27, 28, 29, 30, 31, 32, 33, 34, 35, 36, 37, 38, 39, 40, 41, 42, 43, 44, 45, 46, 47, 48, 49, 50, 51, 52, 53, 54, 55, 56, 57, 58, 59, 60, 61, 62, 63, 64, 65, 66, 67, 68, 69, 70, 71, 72, 73, 74, 75, 78, 79, 80, 81, 82, 83, 84, 85, 86, 87, 88, 89, 90, 76, 77, 91, 92, 93] (by decide +kernel) (by decide +kernel)
set_option maxRecDepth 20000 in
theorem gX11_combine_X11_join : GoodIn wsX11_combine (wsV RX11 266 RX11 yX11_join wsX11_join) := goodIn_app (goodIn_of _ (by decide +kernel)) ggX11_combine_X11_join
theorem dX11_combine_0 : decode cX11_combine 0 = .ok (.aload_n 0, 1) := by decide +kernel
theorem dX11_combine_1 : decode cX11_combine 1 = .ok (.iload_n 1, 1) := by decide +kernel
theorem dX11_combine_2 : decode cX11_combine 2 = .ok (.invokevirtual 86, 3) := by decide +kernel
theorem dX11_combine_5 : decode cX11_combine 5 = .ok (.astore 5, 2) := by decide +kernel
theorem dX11_combine_7 : decode cX11_combine 7 = .ok (.aload_n 0, 1) := by decide +kernel
theorem dX11_combine_8 : decode cX11_combine 8 = .ok (.iload_n 2, 1) := by decide +kernel
theorem dX11_combine_9 : decode cX11_combine 9 = .ok (.invokevirtual 86, 3) := by decide +kernel
theorem dX11_combine_12 : decode cX11_combine 12 = .ok (.astore 6, 2) := by decide +kernel
theorem dX11_combine_14 : decode cX11_combine 14 = .ok (.aload_n 0, 1) := by decide +kernel
theorem dX11_combine_15 : decode cX11_combine 15 = .ok (.iload_n 3, 1) := by decide +kernel
theorem dX11_combine_16 : decode cX11_combine 16 = .ok (.invokevirtual 86, 3) := by decide +kernel
theorem dX11_combine_19 : decode cX11_combine 19 = .ok (.astore 7, 2) := by decide +kernel
theorem dX11_combine_21 : decode cX11_combine 21 = .ok (.aload_n 0, 1) := by decide +kernel
theorem dX11_combine_22 : decode cX11_combine 22 = .ok (.iload 4, 2) := by decide +kernel
theorem dX11_combine_24 : decode cX11_combine 24 = .ok (.iconst 0, 1) := by decide +kernel
theorem dX11_combine_25 : decode cX11_combine 25 = .ok (.iconst 2, 1) := by decide +kernel
theorem dX11_combine_26 : decode cX11_combine 26 = .ok (.invokevirtual 90, 3) := by decide +kernel
theorem dX11_combine_29 : decode cX11_combine 29 = .ok (.aload_n 0, 1) := by decide +kernel
theorem dX11_combine_30 : decode cX11_combine 30 = .ok (.aload 5, 2) := by decide +kernel
theorem dX11_combine_32 : decode cX11_combine 32 = .ok (.aload 6, 2) := by decide +kernel
theorem dX11_combine_34 : decode cX11_combine 34 = .ok (.aload 7, 2) := by decide +kernel
theorem dX11_combine_36 : decode cX11_combine 36 = .ok (.iload 4, 2) := by decide +kernel
theorem dX11_combine_38 : decode cX11_combine 38 = .ok (.invokevirtual 266, 3) := by decide +kernel
theorem dX11_combine_41 : decode cX11_combine 41 = .ok (.ifCond .ne 14, 3) := by decide +kernel
theorem dX11_combine_44 : decode cX11_combine 44 = .ok (.new 245, 3) := by decide +kernel
theorem dX11_combine_47 : decode cX11_combine 47 = .ok (.dup, 1) := by decide +kernel
theorem dX11_combine_48 : decode cX11_combine 48 = .ok (.ldc_w 270, 3) := by decide +kernel
theorem dX11_combine_51 : decode cX11_combine 51 = .ok (.invokespecial 249, 3) := by decide +kernel
theorem dX11_combine_54 : decode cX11_combine 54 = .ok (.athrow, 1) := by decide +kernel
theorem dX11_combine_55 : decode cX11_combine 55 = .ok (.aload 7, 2) := by decide +kernel
theorem dX11_combine_57 : decode cX11_combine 57 = .ok (.getfield 105, 3) := by decide +kernel
theorem dX11_combine_60 : decode cX11_combine 60 = .ok (.ireturn, 1) := by decide +kernel
set_option maxRecDepth 20000 in
theorem ggX11_thin_X11_tapeOf : GoodIn wsX11_thin wsX11_tapeOf := goodIn_ca (goodIn_r _ [6, 7, 8, 9, 35, 36, 37, 38, 39, 40, 41, 42, 43, 44, 45, 46, 47] (by decide +kernel) (by decide +kernel)) (goodIn_sub (fun _ h => List.mem_cons_of_mem _ (List.mem_append_right _ h)) (by decide +kernel))
set_option maxRecDepth 20000 in
theorem gX11_thin_X11_tapeOf : GoodIn wsX11_thin (wsV RX11 86 RX11 yX11_tapeOf wsX11_tapeOf) := goodIn_app (goodIn_of _ (by decide +kernel)) ggX11_thin_X11_tapeOf
set_option maxRecDepth 20000 in
theorem ggX11_thin_X9_thinOut : GoodIn wsX11_thin wsX9_thinOut := goodIn_r _ [14, 15, 16, 17, 18, 19, 20, 21, 22, 23, 13, 24, 25, 26, 27, 28, 29, 30, 31, 32, 33, 34, 48, 49, 50, 51, 52] (by decide +kernel) (by decide +kernel)
set_option maxRecDepth 20000 in
theorem gX11_thin_X9_thinOut : GoodIn wsX11_thin (wsV RX11 272 RX9 yX9_thinOut wsX9_thinOut) := goodIn_app (goodIn_of _ (by decide +kernel)) ggX11_thin_X9_thinOut
theorem dX11_thin_0 : decode cX11_thin 0 = .ok (.aload_n 0, 1) := by decide +kernel
theorem dX11_thin_1 : decode cX11_thin 1 = .ok (.iload_n 1, 1) := by decide +kernel
theorem dX11_thin_2 : decode cX11_thin 2 = .ok (.invokevirtual 86, 3) := by decide +kernel
theorem dX11_thin_5 : decode cX11_thin 5 = .ok (.aload_n 0, 1) := by decide +kernel
theorem dX11_thin_6 : decode cX11_thin 6 = .ok (.getfield 10, 3) := by decide +kernel
theorem dX11_thin_9 : decode cX11_thin 9 = .ok (.iload_n 2, 1) := by decide +kernel
theorem dX11_thin_10 : decode cX11_thin 10 = .ok (.invokevirtual 272, 3) := by decide +kernel
theorem dX11_thin_13 : decode cX11_thin 13 = .ok (.ireturn, 1) := by decide +kernel
set_option maxRecDepth 20000 in
theorem ggX11_find_X11_sortedTapeOf : GoodIn wsX11_find wsX11_sortedTapeOf := goodIn_ca (goodIn_ca (goodIn_r _ [6, 7, 8, 1, 9, 10, 11, 5, 12, 13, 14, 15, 16, 17, 18, 19, 20, 21, 22, 23, 24, 25, 26, 27, 28, 29, 30, 31, 32, 46, 47, 48, 49, 50, 51, 52, 53, 54, 55, 56, 57, 58, 59, 60, 61, 62, 63] (by decide +kernel) (by decide +kernel)) (goodIn_sub (fun _ h => List.mem_cons_of_mem _ (List.mem_append_left _ (List.mem_append_right _ h))) (by decide +kernel))) (goodIn_sub (fun _ h => List.mem_cons_of_mem _ (List.mem_append_right _ h)) (by decide +kernel))
set_option maxRecDepth 20000 in
theorem gX11_find_X11_sortedTapeOf : GoodIn wsX11_find (wsV RX11 276 RX11 yX11_sortedTapeOf wsX11_sortedTapeOf) := goodIn_app (goodIn_of _ (by decide +kernel)) ggX11_find_X11_sortedTapeOf
set_option maxRecDepth 20000 in
theorem ggX11_find_X9_countBelow : GoodIn wsX11_find wsX9_countBelow := goodIn_r _ [36, 21, 37, 38, 39, 19, 40, 22, 23, 24, 25, 26, 41, 42, 43, 30, 44, 32, 59, 60, 61, 62, 63] (by decide +kernel) (by decide +kernel)
set_option maxRecDepth 20000 in
theorem gX11_find_X9_countBelow : GoodIn wsX11_find (wsV RX11 279 RX9 yX9_countBelow wsX9_countBelow) := goodIn_app (goodIn_of _ (by decide +kernel)) ggX11_find_X9_countBelow
set_option maxRecDepth 20000 in
theorem ggX11_find_X9_keyAt : GoodIn wsX11_find wsX9_keyAt := goodIn_r _ [40, 22, 23, 24, 19, 25, 21, 26, 41, 42, 43, 30, 44, 32, 59, 60, 61, 62, 63] (by decide +kernel) (by decide +kernel)
set_option maxRecDepth 20000 in
theorem gX11_find_X9_keyAt : GoodIn wsX11_find (wsV RX11 283 RX9 yX9_keyAt wsX9_keyAt) := goodIn_app (goodIn_of _ (by decide +kernel)) ggX11_find_X9_keyAt
theorem dX11_find_0 : decode cX11_find 0 = .ok (.aload_n 0, 1) := by decide +kernel
theorem dX11_find_1 : decode cX11_find 1 = .ok (.iload_n 1, 1) := by decide +kernel
theorem dX11_find_2 : decode cX11_find 2 = .ok (.invokevirtual 276, 3) := by decide +kernel
theorem dX11_find_5 : decode cX11_find 5 = .ok (.astore_n 3, 1) := by decide +kernel
theorem dX11_find_6 : decode cX11_find 6 = .ok (.aload_n 3, 1) := by decide +kernel
theorem dX11_find_7 : decode cX11_find 7 = .ok (.aload_n 0, 1) := by decide +kernel
theorem dX11_find_8 : decode cX11_find 8 = .ok (.getfield 10, 3) := by decide +kernel
theorem dX11_find_11 : decode cX11_find 11 = .ok (.iload_n 2, 1) := by decide +kernel
theorem dX11_find_12 : decode cX11_find 12 = .ok (.invokevirtual 279, 3) := by decide +kernel
theorem dX11_find_15 : decode cX11_find 15 = .ok (.istore 4, 2) := by decide +kernel
theorem dX11_find_17 : decode cX11_find 17 = .ok (.iload 4, 2) := by decide +kernel
theorem dX11_find_19 : decode cX11_find 19 = .ok (.aload_n 3, 1) := by decide +kernel
theorem dX11_find_20 : decode cX11_find 20 = .ok (.getfield 105, 3) := by decide +kernel
theorem dX11_find_23 : decode cX11_find 23 = .ok (.if_icmp .ge 22, 3) := by decide +kernel
theorem dX11_find_26 : decode cX11_find 26 = .ok (.aload_n 3, 1) := by decide +kernel
theorem dX11_find_27 : decode cX11_find 27 = .ok (.aload_n 0, 1) := by decide +kernel
theorem dX11_find_28 : decode cX11_find 28 = .ok (.getfield 10, 3) := by decide +kernel
theorem dX11_find_31 : decode cX11_find 31 = .ok (.iload 4, 2) := by decide +kernel
theorem dX11_find_33 : decode cX11_find 33 = .ok (.invokevirtual 283, 3) := by decide +kernel
theorem dX11_find_36 : decode cX11_find 36 = .ok (.iload_n 2, 1) := by decide +kernel
theorem dX11_find_37 : decode cX11_find 37 = .ok (.if_icmp .ne 8, 3) := by decide +kernel
theorem dX11_find_40 : decode cX11_find 40 = .ok (.iload 4, 2) := by decide +kernel
theorem dX11_find_42 : decode cX11_find 42 = .ok (.goto 4, 3) := by decide +kernel
theorem dX11_find_45 : decode cX11_find 45 = .ok (.iconst (-1), 1) := by decide +kernel
theorem dX11_find_46 : decode cX11_find 46 = .ok (.ireturn, 1) := by decide +kernel
set_option maxRecDepth 20000 in
theorem ggX11_floor_X11_sortedTapeOf : GoodIn wsX11_floor wsX11_sortedTapeOf := goodIn_ca (goodIn_ca (goodIn_r _ [8, 9, 10, 3, 11, 12, 13, 7, 14, 15, 16, 17, 18, 19, 20, 21, 22, 23, 24, 25, 26, 27, 28, 29, 30, 31, 32, 33, 34, 48, 49, 50, 51, 52, 53, 54, 55, 56, 57, 58, 59, 60, 61, 62, 63, 64, 65] (by decide +kernel) (by decide +kernel)) (goodIn_sub (fun _ h => List.mem_cons_of_mem _ (List.mem_append_left _ (List.mem_append_right _ h))) (by decide +kernel))) (goodIn_sub (fun _ h => List.mem_cons_of_mem _ (List.mem_append_right _ h)) (by decide +kernel))
set_option maxRecDepth 20000 in
theorem gX11_floor_X11_sortedTapeOf : GoodIn wsX11_floor (wsV RX11 276 RX11 yX11_sortedTapeOf wsX11_sortedTapeOf) := goodIn_app (goodIn_of _ (by decide +kernel)) ggX11_floor_X11_sortedTapeOf
set_option maxRecDepth 20000 in
theorem ggX11_floor_X9_countUpTo : GoodIn wsX11_floor wsX9_countUpTo := goodIn_r _ [38, 23, 39, 40, 41, 21, 42, 24, 25, 26, 27, 28, 43, 44, 45, 32, 46, 34, 61, 62, 63, 64, 65] (by decide +kernel) (by decide +kernel)
set_option maxRecDepth 20000 in
theorem gX11_floor_X9_countUpTo : GoodIn wsX11_floor (wsV RX11 286 RX9 yX9_countUpTo wsX9_countUpTo) := goodIn_app (goodIn_of _ (by decide +kernel)) ggX11_floor_X9_countUpTo
set_option maxRecDepth 20000 in
theorem ggX11_floor_X9_keyAt : GoodIn wsX11_floor wsX9_keyAt := goodIn_r _ [42, 24, 25, 26, 21, 27, 23, 28, 43, 44, 45, 32, 46, 34, 61, 62, 63, 64, 65] (by decide +kernel) (by decide +kernel)
set_option maxRecDepth 20000 in
theorem gX11_floor_X9_keyAt : GoodIn wsX11_floor (wsV RX11 283 RX9 yX9_keyAt wsX9_keyAt) := goodIn_app (goodIn_of _ (by decide +kernel)) ggX11_floor_X9_keyAt
theorem dX11_floor_0 : decode cX11_floor 0 = .ok (.aload_n 0, 1) := by decide +kernel
theorem dX11_floor_1 : decode cX11_floor 1 = .ok (.iload_n 1, 1) := by decide +kernel
theorem dX11_floor_2 : decode cX11_floor 2 = .ok (.invokevirtual 276, 3) := by decide +kernel
theorem dX11_floor_5 : decode cX11_floor 5 = .ok (.astore_n 3, 1) := by decide +kernel
theorem dX11_floor_6 : decode cX11_floor 6 = .ok (.aload_n 3, 1) := by decide +kernel
theorem dX11_floor_7 : decode cX11_floor 7 = .ok (.aload_n 0, 1) := by decide +kernel
theorem dX11_floor_8 : decode cX11_floor 8 = .ok (.getfield 10, 3) := by decide +kernel
theorem dX11_floor_11 : decode cX11_floor 11 = .ok (.iload_n 2, 1) := by decide +kernel
theorem dX11_floor_12 : decode cX11_floor 12 = .ok (.invokevirtual 286, 3) := by decide +kernel
theorem dX11_floor_15 : decode cX11_floor 15 = .ok (.iconst 1, 1) := by decide +kernel
theorem dX11_floor_16 : decode cX11_floor 16 = .ok (.isub, 1) := by decide +kernel
theorem dX11_floor_17 : decode cX11_floor 17 = .ok (.istore 4, 2) := by decide +kernel
theorem dX11_floor_19 : decode cX11_floor 19 = .ok (.iload 4, 2) := by decide +kernel
theorem dX11_floor_21 : decode cX11_floor 21 = .ok (.ifCond .ge 14, 3) := by decide +kernel
theorem dX11_floor_24 : decode cX11_floor 24 = .ok (.new 289, 3) := by decide +kernel
theorem dX11_floor_27 : decode cX11_floor 27 = .ok (.dup, 1) := by decide +kernel
theorem dX11_floor_28 : decode cX11_floor 28 = .ok (.ldc_w 291, 3) := by decide +kernel
theorem dX11_floor_31 : decode cX11_floor 31 = .ok (.invokespecial 293, 3) := by decide +kernel
theorem dX11_floor_34 : decode cX11_floor 34 = .ok (.athrow, 1) := by decide +kernel
theorem dX11_floor_35 : decode cX11_floor 35 = .ok (.aload_n 3, 1) := by decide +kernel
theorem dX11_floor_36 : decode cX11_floor 36 = .ok (.aload_n 0, 1) := by decide +kernel
theorem dX11_floor_37 : decode cX11_floor 37 = .ok (.getfield 10, 3) := by decide +kernel
theorem dX11_floor_40 : decode cX11_floor 40 = .ok (.iload 4, 2) := by decide +kernel
theorem dX11_floor_42 : decode cX11_floor 42 = .ok (.invokevirtual 283, 3) := by decide +kernel
theorem dX11_floor_45 : decode cX11_floor 45 = .ok (.ireturn, 1) := by decide +kernel
set_option maxRecDepth 20000 in
theorem ggX11_ceiling_X11_sortedTapeOf : GoodIn wsX11_ceiling wsX11_sortedTapeOf := goodIn_ca (goodIn_ca (goodIn_r _ [8, 9, 10, 3, 11, 12, 13, 7, 14, 15, 16, 17, 18, 19, 20, 21, 22, 23, 24, 25, 26, 27, 28, 29, 30, 31, 32, 33, 34, 48, 49, 50, 51, 52, 53, 54, 55, 56, 57, 58, 59, 60, 61, 62, 63, 64, 65] (by decide +kernel) (by decide +kernel)) (goodIn_sub (fun _ h => List.mem_cons_of_mem _ (List.mem_append_left _ (List.mem_append_right _ h))) (by decide +kernel))) (goodIn_sub (fun _ h => List.mem_cons_of_mem _ (List.mem_append_right _ h)) (by decide +kernel))
set_option maxRecDepth 20000 in
theorem gX11_ceiling_X11_sortedTapeOf : GoodIn wsX11_ceiling (wsV RX11 276 RX11 yX11_sortedTapeOf wsX11_sortedTapeOf) := goodIn_app (goodIn_of _ (by decide +kernel)) ggX11_ceiling_X11_sortedTapeOf
set_option maxRecDepth 20000 in
theorem ggX11_ceiling_X9_countBelow : GoodIn wsX11_ceiling wsX9_countBelow := goodIn_r _ [38, 23, 39, 40, 41, 21, 42, 24, 25, 26, 27, 28, 43, 44, 45, 32, 46, 34, 61, 62, 63, 64, 65] (by decide +kernel) (by decide +kernel)
set_option maxRecDepth 20000 in
theorem gX11_ceiling_X9_countBelow : GoodIn wsX11_ceiling (wsV RX11 279 RX9 yX9_countBelow wsX9_countBelow) := goodIn_app (goodIn_of _ (by decide +kernel)) ggX11_ceiling_X9_countBelow
set_option maxRecDepth 20000 in
theorem ggX11_ceiling_X9_keyAt : GoodIn wsX11_ceiling wsX9_keyAt := goodIn_r _ [42, 24, 25, 26, 21, 27, 23, 28, 43, 44, 45, 32, 46, 34, 61, 62, 63, 64, 65] (by decide +kernel) (by decide +kernel)
set_option maxRecDepth 20000 in
theorem gX11_ceiling_X9_keyAt : GoodIn wsX11_ceiling (wsV RX11 283 RX9 yX9_keyAt wsX9_keyAt) := goodIn_app (goodIn_of _ (by decide +kernel)) ggX11_ceiling_X9_keyAt
theorem dX11_ceiling_0 : decode cX11_ceiling 0 = .ok (.aload_n 0, 1) := by decide +kernel
theorem dX11_ceiling_1 : decode cX11_ceiling 1 = .ok (.iload_n 1, 1) := by decide +kernel
theorem dX11_ceiling_2 : decode cX11_ceiling 2 = .ok (.invokevirtual 276, 3) := by decide +kernel
theorem dX11_ceiling_5 : decode cX11_ceiling 5 = .ok (.astore_n 3, 1) := by decide +kernel
theorem dX11_ceiling_6 : decode cX11_ceiling 6 = .ok (.aload_n 3, 1) := by decide +kernel
theorem dX11_ceiling_7 : decode cX11_ceiling 7 = .ok (.aload_n 0, 1) := by decide +kernel
theorem dX11_ceiling_8 : decode cX11_ceiling 8 = .ok (.getfield 10, 3) := by decide +kernel
theorem dX11_ceiling_11 : decode cX11_ceiling 11 = .ok (.iload_n 2, 1) := by decide +kernel
theorem dX11_ceiling_12 : decode cX11_ceiling 12 = .ok (.invokevirtual 279, 3) := by decide +kernel
theorem dX11_ceiling_15 : decode cX11_ceiling 15 = .ok (.istore 4, 2) := by decide +kernel
theorem dX11_ceiling_17 : decode cX11_ceiling 17 = .ok (.iload 4, 2) := by decide +kernel
theorem dX11_ceiling_19 : decode cX11_ceiling 19 = .ok (.aload_n 3, 1) := by decide +kernel
theorem dX11_ceiling_20 : decode cX11_ceiling 20 = .ok (.getfield 105, 3) := by decide +kernel
theorem dX11_ceiling_23 : decode cX11_ceiling 23 = .ok (.if_icmp .lt 14, 3) := by decide +kernel
theorem dX11_ceiling_26 : decode cX11_ceiling 26 = .ok (.new 289, 3) := by decide +kernel
theorem dX11_ceiling_29 : decode cX11_ceiling 29 = .ok (.dup, 1) := by decide +kernel
theorem dX11_ceiling_30 : decode cX11_ceiling 30 = .ok (.ldc_w 294, 3) := by decide +kernel
theorem dX11_ceiling_33 : decode cX11_ceiling 33 = .ok (.invokespecial 293, 3) := by decide +kernel
theorem dX11_ceiling_36 : decode cX11_ceiling 36 = .ok (.athrow, 1) := by decide +kernel
theorem dX11_ceiling_37 : decode cX11_ceiling 37 = .ok (.aload_n 3, 1) := by decide +kernel
theorem dX11_ceiling_38 : decode cX11_ceiling 38 = .ok (.aload_n 0, 1) := by decide +kernel
theorem dX11_ceiling_39 : decode cX11_ceiling 39 = .ok (.getfield 10, 3) := by decide +kernel
theorem dX11_ceiling_42 : decode cX11_ceiling 42 = .ok (.iload 4, 2) := by decide +kernel
theorem dX11_ceiling_44 : decode cX11_ceiling 44 = .ok (.invokevirtual 283, 3) := by decide +kernel
theorem dX11_ceiling_47 : decode cX11_ceiling 47 = .ok (.ireturn, 1) := by decide +kernel
set_option maxRecDepth 20000 in
theorem ggX11_between_X11_sortedTapeOf : GoodIn wsX11_between wsX11_sortedTapeOf := goodIn_ca (goodIn_ca (goodIn_r _ [10, 11, 12, 1, 13, 14, 15, 9, 16, 17, 18, 19, 20, 21, 22, 23, 24, 25, 26, 27, 28, 29, 30, 31, 32, 33, 34, 35, 36, 53, 54, 55, 56, 57, 58, 59, 60, 61, 62, 63, 64, 65, 66, 67, 68, 69, 70] (by decide +kernel) (by decide +kernel)) (goodIn_sub (fun _ h => List.mem_cons_of_mem _ (List.mem_append_left _ (List.mem_append_right _ h))) (by decide +kernel))) (goodIn_sub (fun _ h => List.mem_cons_of_mem _ (List.mem_append_right _ h)) (by decide +kernel))
set_option maxRecDepth 20000 in
theorem gX11_between_X11_sortedTapeOf : GoodIn wsX11_between (wsV RX11 276 RX11 yX11_sortedTapeOf wsX11_sortedTapeOf) := goodIn_app (goodIn_of _ (by decide +kernel)) ggX11_between_X11_sortedTapeOf
set_option maxRecDepth 20000 in
theorem ggX11_between_X9_countUpTo : GoodIn wsX11_between wsX9_countUpTo := goodIn_r _ [40, 25, 41, 42, 43, 23, 44, 26, 27, 28, 29, 30, 45, 46, 47, 34, 48, 36, 66, 67, 68, 69, 70] (by decide +kernel) (by decide +kernel)
set_option maxRecDepth 20000 in
theorem gX11_between_X9_countUpTo : GoodIn wsX11_between (wsV RX11 286 RX9 yX9_countUpTo wsX9_countUpTo) := goodIn_app (goodIn_of _ (by decide +kernel)) ggX11_between_X9_countUpTo
set_option maxRecDepth 20000 in
theorem ggX11_between_X9_countBelow : GoodIn wsX11_between wsX9_countBelow := goodIn_r _ [52, 25, 41, 42, 43, 23, 44, 26, 27, 28, 29, 30, 45, 46, 47, 34, 48, 36, 66, 67, 68, 69, 70] (by decide +kernel) (by decide +kernel)
set_option maxRecDepth 20000 in
theorem gX11_between_X9_countBelow : GoodIn wsX11_between (wsV RX11 279 RX9 yX9_countBelow wsX9_countBelow) := goodIn_app (goodIn_of _ (by decide +kernel)) ggX11_between_X9_countBelow
theorem dX11_between_0 : decode cX11_between 0 = .ok (.aload_n 0, 1) := by decide +kernel
theorem dX11_between_1 : decode cX11_between 1 = .ok (.iload_n 1, 1) := by decide +kernel
theorem dX11_between_2 : decode cX11_between 2 = .ok (.invokevirtual 276, 3) := by decide +kernel
theorem dX11_between_5 : decode cX11_between 5 = .ok (.astore 4, 2) := by decide +kernel
theorem dX11_between_7 : decode cX11_between 7 = .ok (.iconst 0, 1) := by decide +kernel
theorem dX11_between_8 : decode cX11_between 8 = .ok (.aload 4, 2) := by decide +kernel
theorem dX11_between_10 : decode cX11_between 10 = .ok (.aload_n 0, 1) := by decide +kernel
theorem dX11_between_11 : decode cX11_between 11 = .ok (.getfield 10, 3) := by decide +kernel
theorem dX11_between_14 : decode cX11_between 14 = .ok (.iload_n 3, 1) := by decide +kernel
theorem dX11_between_15 : decode cX11_between 15 = .ok (.invokevirtual 286, 3) := by decide +kernel
theorem dX11_between_18 : decode cX11_between 18 = .ok (.aload 4, 2) := by decide +kernel
theorem dX11_between_20 : decode cX11_between 20 = .ok (.aload_n 0, 1) := by decide +kernel
theorem dX11_between_21 : decode cX11_between 21 = .ok (.getfield 10, 3) := by decide +kernel
theorem dX11_between_24 : decode cX11_between 24 = .ok (.iload_n 2, 1) := by decide +kernel
theorem dX11_between_25 : decode cX11_between 25 = .ok (.invokevirtual 279, 3) := by decide +kernel
theorem dX11_between_28 : decode cX11_between 28 = .ok (.isub, 1) := by decide +kernel
theorem dX11_between_29 : decode cX11_between 29 = .ok (.invokestatic 296, 3) := by decide +kernel
theorem dX11_between_32 : decode cX11_between 32 = .ok (.ireturn, 1) := by decide +kernel
set_option maxRecDepth 20000 in
theorem ggX11_keys_X11_sortedTapeOf : GoodIn wsX11_keys wsX11_sortedTapeOf := goodIn_ca (goodIn_ca (goodIn_r _ [6, 7, 8, 1, 9, 10, 11, 5, 12, 13, 14, 15, 16, 17, 18, 19, 20, 21, 22, 23, 24, 25, 26, 27, 28, 29, 30, 31, 32, 43, 44, 45, 46, 47, 48, 49, 50, 51, 52, 53, 54, 55, 41, 42, 56, 57, 58] (by decide +kernel) (by decide +kernel)) (goodIn_sub (fun _ h => List.mem_cons_of_mem _ (List.mem_append_left _ (List.mem_append_right _ h))) (by decide +kernel))) (goodIn_sub (fun _ h => List.mem_cons_of_mem _ (List.mem_append_right _ h)) (by decide +kernel))
set_option maxRecDepth 20000 in
theorem gX11_keys_X11_sortedTapeOf : GoodIn wsX11_keys (wsV RX11 276 RX11 yX11_sortedTapeOf wsX11_sortedTapeOf) := goodIn_app (goodIn_of _ (by decide +kernel)) ggX11_keys_X11_sortedTapeOf
set_option maxRecDepth 20000 in
theorem ggX11_keys_X9_keyAt : GoodIn wsX11_keys wsX9_keyAt := goodIn_r _ [36, 22, 23, 24, 19, 25, 21, 26, 37, 38, 39, 30, 40, 32, 41, 42, 56, 57, 58] (by decide +kernel) (by decide +kernel)
set_option maxRecDepth 20000 in
theorem gX11_keys_X9_keyAt : GoodIn wsX11_keys (wsV RX11 283 RX9 yX9_keyAt wsX9_keyAt) := goodIn_app (goodIn_of _ (by decide +kernel)) ggX11_keys_X9_keyAt
theorem dX11_keys_0 : decode cX11_keys 0 = .ok (.aload_n 0, 1) := by decide +kernel
theorem dX11_keys_1 : decode cX11_keys 1 = .ok (.iload_n 1, 1) := by decide +kernel
theorem dX11_keys_2 : decode cX11_keys 2 = .ok (.invokevirtual 276, 3) := by decide +kernel
theorem dX11_keys_5 : decode cX11_keys 5 = .ok (.astore_n 2, 1) := by decide +kernel
theorem dX11_keys_6 : decode cX11_keys 6 = .ok (.iconst 0, 1) := by decide +kernel
theorem dX11_keys_7 : decode cX11_keys 7 = .ok (.istore_n 3, 1) := by decide +kernel
theorem dX11_keys_8 : decode cX11_keys 8 = .ok (.iconst 0, 1) := by decide +kernel
theorem dX11_keys_9 : decode cX11_keys 9 = .ok (.istore 4, 2) := by decide +kernel
theorem dX11_keys_11 : decode cX11_keys 11 = .ok (.iload 4, 2) := by decide +kernel
theorem dX11_keys_13 : decode cX11_keys 13 = .ok (.aload_n 2, 1) := by decide +kernel
theorem dX11_keys_14 : decode cX11_keys 14 = .ok (.getfield 105, 3) := by decide +kernel
theorem dX11_keys_17 : decode cX11_keys 17 = .ok (.if_icmp .ge 42, 3) := by decide +kernel
theorem dX11_keys_20 : decode cX11_keys 20 = .ok (.iload 4, 2) := by decide +kernel
theorem dX11_keys_22 : decode cX11_keys 22 = .ok (.ifCond .eq 28, 3) := by decide +kernel
theorem dX11_keys_25 : decode cX11_keys 25 = .ok (.aload_n 2, 1) := by decide +kernel
theorem dX11_keys_26 : decode cX11_keys 26 = .ok (.aload_n 0, 1) := by decide +kernel
theorem dX11_keys_27 : decode cX11_keys 27 = .ok (.getfield 10, 3) := by decide +kernel
theorem dX11_keys_30 : decode cX11_keys 30 = .ok (.iload 4, 2) := by decide +kernel
theorem dX11_keys_32 : decode cX11_keys 32 = .ok (.invokevirtual 283, 3) := by decide +kernel
theorem dX11_keys_35 : decode cX11_keys 35 = .ok (.aload_n 2, 1) := by decide +kernel
theorem dX11_keys_36 : decode cX11_keys 36 = .ok (.aload_n 0, 1) := by decide +kernel
theorem dX11_keys_37 : decode cX11_keys 37 = .ok (.getfield 10, 3) := by decide +kernel
theorem dX11_keys_40 : decode cX11_keys 40 = .ok (.iload 4, 2) := by decide +kernel
theorem dX11_keys_42 : decode cX11_keys 42 = .ok (.iconst 1, 1) := by decide +kernel
theorem dX11_keys_43 : decode cX11_keys 43 = .ok (.isub, 1) := by decide +kernel
theorem dX11_keys_44 : decode cX11_keys 44 = .ok (.invokevirtual 283, 3) := by decide +kernel
theorem dX11_keys_47 : decode cX11_keys 47 = .ok (.if_icmp .eq 6, 3) := by decide +kernel
theorem dX11_keys_50 : decode cX11_keys 50 = .ok (.iinc 3 1, 3) := by decide +kernel
theorem dX11_keys_53 : decode cX11_keys 53 = .ok (.iinc 4 1, 3) := by decide +kernel
theorem dX11_keys_56 : decode cX11_keys 56 = .ok (.goto (-45), 3) := by decide +kernel
theorem dX11_keys_59 : decode cX11_keys 59 = .ok (.iload_n 3, 1) := by decide +kernel
theorem dX11_keys_60 : decode cX11_keys 60 = .ok (.ireturn, 1) := by decide +kernel
set_option maxRecDepth 20000 in
theorem ggX11_type_X11_byteOf : GoodIn wsX11_type wsX11_byteOf := goodIn_r _ [7, 8] (by decide +kernel) (by decide +kernel)
set_option maxRecDepth 20000 in
theorem gX11_type_X11_byteOf : GoodIn wsX11_type (va_wsS RX11 301 yX11_byteOf wsX11_byteOf) := goodIn_app (goodIn_of _ (by decide +kernel)) ggX11_type_X11_byteOf
set_option maxRecDepth 20000 in
theorem ggX11_type_X10_add : GoodIn wsX11_type wsX10_add := goodIn_r _ [13, 14, 15, 42, 43] (by decide +kernel) (by decide +kernel)
set_option maxRecDepth 20000 in
theorem gX11_type_X10_add : GoodIn wsX11_type (wsV RX11 314 RX10 yX10_add wsX10_add) := goodIn_app (goodIn_of _ (by decide +kernel)) ggX11_type_X10_add
theorem dX11_type_0 : decode cX11_type 0 = .ok (.iconst 0, 1) := by decide +kernel
theorem dX11_type_1 : decode cX11_type 1 = .ok (.istore_n 3, 1) := by decide +kernel
theorem dX11_type_2 : decode cX11_type 2 = .ok (.bipush 56, 2) := by decide +kernel
theorem dX11_type_4 : decode cX11_type 4 = .ok (.istore 4, 2) := by decide +kernel
theorem dX11_type_6 : decode cX11_type 6 = .ok (.iload 4, 2) := by decide +kernel
theorem dX11_type_8 : decode cX11_type 8 = .ok (.ifCond .lt 26, 3) := by decide +kernel
theorem dX11_type_11 : decode cX11_type 11 = .ok (.iload_n 3, 1) := by decide +kernel
theorem dX11_type_12 : decode cX11_type 12 = .ok (.lload_n 1, 1) := by decide +kernel
theorem dX11_type_13 : decode cX11_type 13 = .ok (.iload 4, 2) := by decide +kernel
theorem dX11_type_15 : decode cX11_type 15 = .ok (.invokestatic 301, 3) := by decide +kernel
theorem dX11_type_18 : decode cX11_type 18 = .ok (.ifCond .eq 7, 3) := by decide +kernel
theorem dX11_type_21 : decode cX11_type 21 = .ok (.iconst 1, 1) := by decide +kernel
theorem dX11_type_22 : decode cX11_type 22 = .ok (.goto 4, 3) := by decide +kernel
theorem dX11_type_25 : decode cX11_type 25 = .ok (.iconst 0, 1) := by decide +kernel
theorem dX11_type_26 : decode cX11_type 26 = .ok (.iadd, 1) := by decide +kernel
theorem dX11_type_27 : decode cX11_type 27 = .ok (.istore_n 3, 1) := by decide +kernel
theorem dX11_type_28 : decode cX11_type 28 = .ok (.iinc 4 (-8), 3) := by decide +kernel
theorem dX11_type_31 : decode cX11_type 31 = .ok (.goto (-25), 3) := by decide +kernel
theorem dX11_type_34 : decode cX11_type 34 = .ok (.aload_n 0, 1) := by decide +kernel
theorem dX11_type_35 : decode cX11_type 35 = .ok (.getfield 71, 3) := by decide +kernel
theorem dX11_type_38 : decode cX11_type 38 = .ok (.getfield 305, 3) := by decide +kernel
theorem dX11_type_41 : decode cX11_type 41 = .ok (.getfield 309, 3) := by decide +kernel
theorem dX11_type_44 : decode cX11_type 44 = .ok (.iload_n 3, 1) := by decide +kernel
theorem dX11_type_45 : decode cX11_type 45 = .ok (.iadd, 1) := by decide +kernel
theorem dX11_type_46 : decode cX11_type 46 = .ok (.sipush 160, 3) := by decide +kernel
theorem dX11_type_49 : decode cX11_type 49 = .ok (.if_icmp .le 14, 3) := by decide +kernel
theorem dX11_type_52 : decode cX11_type 52 = .ok (.new 245, 3) := by decide +kernel
theorem dX11_type_55 : decode cX11_type 55 = .ok (.dup, 1) := by decide +kernel
theorem dX11_type_56 : decode cX11_type 56 = .ok (.ldc_w 312, 3) := by decide +kernel
theorem dX11_type_59 : decode cX11_type 59 = .ok (.invokespecial 249, 3) := by decide +kernel
theorem dX11_type_62 : decode cX11_type 62 = .ok (.athrow, 1) := by decide +kernel
theorem dX11_type_63 : decode cX11_type 63 = .ok (.bipush 56, 2) := by decide +kernel
theorem dX11_type_65 : decode cX11_type 65 = .ok (.istore 4, 2) := by decide +kernel
theorem dX11_type_67 : decode cX11_type 67 = .ok (.iload 4, 2) := by decide +kernel
theorem dX11_type_69 : decode cX11_type 69 = .ok (.ifCond .lt 34, 3) := by decide +kernel
theorem dX11_type_72 : decode cX11_type 72 = .ok (.lload_n 1, 1) := by decide +kernel
theorem dX11_type_73 : decode cX11_type 73 = .ok (.iload 4, 2) := by decide +kernel
theorem dX11_type_75 : decode cX11_type 75 = .ok (.invokestatic 301, 3) := by decide +kernel
theorem dX11_type_78 : decode cX11_type 78 = .ok (.istore 5, 2) := by decide +kernel
theorem dX11_type_80 : decode cX11_type 80 = .ok (.iload 5, 2) := by decide +kernel
theorem dX11_type_82 : decode cX11_type 82 = .ok (.ifCond .eq 15, 3) := by decide +kernel
theorem dX11_type_85 : decode cX11_type 85 = .ok (.aload_n 0, 1) := by decide +kernel
theorem dX11_type_86 : decode cX11_type 86 = .ok (.getfield 71, 3) := by decide +kernel
theorem dX11_type_89 : decode cX11_type 89 = .ok (.getfield 305, 3) := by decide +kernel
theorem dX11_type_92 : decode cX11_type 92 = .ok (.iload 5, 2) := by decide +kernel
theorem dX11_type_94 : decode cX11_type 94 = .ok (.invokevirtual 314, 3) := by decide +kernel
theorem dX11_type_97 : decode cX11_type 97 = .ok (.iinc 4 (-8), 3) := by decide +kernel
theorem dX11_type_100 : decode cX11_type 100 = .ok (.goto (-33), 3) := by decide +kernel
theorem dX11_type_103 : decode cX11_type 103 = .ok (.aload_n 0, 1) := by decide +kernel
theorem dX11_type_104 : decode cX11_type 104 = .ok (.getfield 71, 3) := by decide +kernel
theorem dX11_type_107 : decode cX11_type 107 = .ok (.getfield 305, 3) := by decide +kernel
theorem dX11_type_110 : decode cX11_type 110 = .ok (.getfield 309, 3) := by decide +kernel
theorem dX11_type_113 : decode cX11_type 113 = .ok (.ireturn, 1) := by decide +kernel
set_option maxRecDepth 20000 in
theorem ggX11_clearText_X10_empty : GoodIn wsX11_clearText wsX10_empty := goodIn_r _ [6, 7, 34, 35] (by decide +kernel) (by decide +kernel)
set_option maxRecDepth 20000 in
theorem gX11_clearText_X10_empty : GoodIn wsX11_clearText (wsV RX11 315 RX10 yX10_empty wsX10_empty) := goodIn_app (goodIn_of _ (by decide +kernel)) ggX11_clearText_X10_empty
theorem dX11_clearText_0 : decode cX11_clearText 0 = .ok (.aload_n 0, 1) := by decide +kernel
theorem dX11_clearText_1 : decode cX11_clearText 1 = .ok (.getfield 71, 3) := by decide +kernel
theorem dX11_clearText_4 : decode cX11_clearText 4 = .ok (.getfield 305, 3) := by decide +kernel
theorem dX11_clearText_7 : decode cX11_clearText 7 = .ok (.getfield 309, 3) := by decide +kernel
theorem dX11_clearText_10 : decode cX11_clearText 10 = .ok (.istore_n 1, 1) := by decide +kernel
theorem dX11_clearText_11 : decode cX11_clearText 11 = .ok (.aload_n 0, 1) := by decide +kernel
theorem dX11_clearText_12 : decode cX11_clearText 12 = .ok (.getfield 71, 3) := by decide +kernel
theorem dX11_clearText_15 : decode cX11_clearText 15 = .ok (.getfield 305, 3) := by decide +kernel
theorem dX11_clearText_18 : decode cX11_clearText 18 = .ok (.invokevirtual 315, 3) := by decide +kernel
theorem dX11_clearText_21 : decode cX11_clearText 21 = .ok (.iload_n 1, 1) := by decide +kernel
theorem dX11_clearText_22 : decode cX11_clearText 22 = .ok (.ireturn, 1) := by decide +kernel
theorem dX11_textLength_0 : decode cX11_textLength 0 = .ok (.aload_n 0, 1) := by decide +kernel
theorem dX11_textLength_1 : decode cX11_textLength 1 = .ok (.getfield 71, 3) := by decide +kernel
theorem dX11_textLength_4 : decode cX11_textLength 4 = .ok (.getfield 305, 3) := by decide +kernel
theorem dX11_textLength_7 : decode cX11_textLength 7 = .ok (.getfield 309, 3) := by decide +kernel
theorem dX11_textLength_10 : decode cX11_textLength 10 = .ok (.ireturn, 1) := by decide +kernel
set_option maxRecDepth 20000 in
theorem ggX11_example_X11_demandRange : GoodIn wsX11_example wsX11_demandRange := goodIn_ca (goodIn_r _ [6, 7, 8] (by decide +kernel) (by decide +kernel)) (goodIn_sub (fun _ h => List.mem_cons_of_mem _ (List.mem_append_right _ h)) (by decide +kernel))
set_option maxRecDepth 20000 in
theorem gX11_example_X11_demandRange : GoodIn wsX11_example (wsV RX11 90 RX11 yX11_demandRange wsX11_demandRange) := goodIn_app (goodIn_of _ (by decide +kernel)) ggX11_example_X11_demandRange
set_option maxRecDepth 20000 in
theorem ggX11_example_X10_replaceBy : GoodIn wsX11_example wsX10_replaceBy := goodIn_r _ [13, 14, 15, 16, 12, 17, 18, 19, 20, 21, 22, 23, 24, 25, 26, 27, 28, 29, 30, 31, 32, 33, 34, 35, 36, 37, 38, 39, 40, 41, 42, 43, 44, 45, 46, 47, 48, 49, 50, 51, 52, 53, 54, 55, 56, 57, 58, 59, 60, 61, 62, 63, 64, 65, 66, 67, 68, 69, 70, 71, 72, 99, 100] (by decide +kernel) (by decide +kernel)
set_option maxRecDepth 20000 in
theorem gX11_example_X10_replaceBy : GoodIn wsX11_example (wsV RX11 322 RX10 yX10_replaceBy wsX10_replaceBy) := goodIn_app (goodIn_of _ (by decide +kernel)) ggX11_example_X10_replaceBy
theorem dX11_example_0 : decode cX11_example 0 = .ok (.aload_n 0, 1) := by decide +kernel
theorem dX11_example_1 : decode cX11_example 1 = .ok (.iload_n 1, 1) := by decide +kernel
theorem dX11_example_2 : decode cX11_example 2 = .ok (.iconst 0, 1) := by decide +kernel
theorem dX11_example_3 : decode cX11_example 3 = .ok (.iconst 2, 1) := by decide +kernel
theorem dX11_example_4 : decode cX11_example 4 = .ok (.invokevirtual 90, 3) := by decide +kernel
theorem dX11_example_7 : decode cX11_example 7 = .ok (.aload_n 0, 1) := by decide +kernel
theorem dX11_example_8 : decode cX11_example 8 = .ok (.getfield 71, 3) := by decide +kernel
theorem dX11_example_11 : decode cX11_example 11 = .ok (.getfield 305, 3) := by decide +kernel
theorem dX11_example_14 : decode cX11_example 14 = .ok (.iload_n 1, 1) := by decide +kernel
theorem dX11_example_15 : decode cX11_example 15 = .ok (.ifCond .ne 9, 3) := by decide +kernel
theorem dX11_example_18 : decode cX11_example 18 = .ok (.ldc_w 316, 3) := by decide +kernel
theorem dX11_example_21 : decode cX11_example 21 = .ok (.goto 17, 3) := by decide +kernel
theorem dX11_example_24 : decode cX11_example 24 = .ok (.iload_n 1, 1) := by decide +kernel
theorem dX11_example_25 : decode cX11_example 25 = .ok (.iconst 1, 1) := by decide +kernel
theorem dX11_example_26 : decode cX11_example 26 = .ok (.if_icmp .ne 9, 3) := by decide +kernel
theorem dX11_example_29 : decode cX11_example 29 = .ok (.ldc_w 318, 3) := by decide +kernel
theorem dX11_example_32 : decode cX11_example 32 = .ok (.goto 6, 3) := by decide +kernel
theorem dX11_example_35 : decode cX11_example 35 = .ok (.ldc_w 320, 3) := by decide +kernel
theorem dX11_example_38 : decode cX11_example 38 = .ok (.invokevirtual 322, 3) := by decide +kernel
theorem dX11_example_41 : decode cX11_example 41 = .ok (.aload_n 0, 1) := by decide +kernel
theorem dX11_example_42 : decode cX11_example 42 = .ok (.getfield 71, 3) := by decide +kernel
theorem dX11_example_45 : decode cX11_example 45 = .ok (.getfield 305, 3) := by decide +kernel
theorem dX11_example_48 : decode cX11_example 48 = .ok (.getfield 309, 3) := by decide +kernel
theorem dX11_example_51 : decode cX11_example 51 = .ok (.ireturn, 1) := by decide +kernel
set_option maxRecDepth 20000 in
theorem ggX11_errorKind_X11_carryOutText : GoodIn wsX11_errorKind wsX11_carryOutText := goodIn_r _ [6, 1, 7, 8, 9, 10, 11, 12, 13, 14, 15, 16, 17, 18, 19, 20, 21, 22, 23, 24, 25, 26, 27, 28, 29, 30, 31, 32, 33, 34, 35, 36, 37, 38, 39, 40, 41, 42, 43, 44, 45, 46, 47, 48, 49, 50, 51, 52, 53, 54, 55, 56, 57, 58, 59, 60, 61, 62, 63, 64, 65, 66, 67, 68, 69, 70, 71, 72, 73, 74, 75, 76, 77, 78, 79, 80, 81, 82, 83, 84, 85, 86, 87, 88, 89, 90, 91, 92, 93, 94, 95, 96, 97, 98, 99, 100, 101, 102, 103, 104, 105, 106, 107, 108, 109, 110, 111, 112, 113, 114, 115, 116, 117, 118, 119, 120, 121, 122, 123, 124, 125, 126, 127, 128, 129, 130, 131, 132, 133, 134, 135, 136, 137, 138, 139, 140, 141, 142, 143, 144, 145, 146, 147, 148, 149, 150, 151, 152, 153, 154, 155, 156, 157, 158, 159, 160, 161, 162, 163, 5, 164, 165, 166, 167, 168, 169, 170, 171, 172, 173, 174, 175, 176, 177, 178, 179, 180, 181, 182, 183, 184, 185, 186, 187, 188, 189, 190, 191, 192, 193, 194, 195, 196, 197, 198, 199, 200, 201, 202, 203, 204, 205, 206, 207, 208, 209, 210, 211, 212, 213, 214, 215, 216, 217, 218, 219, 220, 221, 222, 223, 224, 225, 226, 227, 228, 229, 230, 231, 232, 233, 234, 235, 236, 237, 238, 239, 240, 241, 242, 243, 244, 245, 246, 247, 248, 249, 250, 251, 252, 253, 254, 255, 256, 257, 258, 259, 260, 261, 262, 263, 264, 265, 266, 267, 268, 269, 270, 271, 272, 273, 274, 275, 276, 277, 278, 279, 280, 281, 282, 283, 284, 285, 286, 287, 288, 289, 290, 291, 292, 293, 294, 295, 296, 297, 298, 299, 300, 301, 302, 303, 304, 305, 306, 307, 308, 309, 310, 311, 312, 313, 314, 315, 316, 317, 318, 319, 320, 321, 322, 323, 324, 325, 326, 327, 328, 329, 330, 331, 332, 333, 334, 335, 336, 337, 338, 339, 340, 341, 342, 343, 344, 345, 346, 347, 348, 349, 350, 351, 352, 353, 354, 355, 356, 357, 358, 359, 360, 361, 362, 363, 364, 365, 366, 367, 368, 369, 370, 371, 372, 373, 374, 375, 376, 377, 378, 379, 380, 381, 382, 383, 384, 385, 386, 387, 388, 389, 390, 391, 392, 393, 394, 395, 396, 397, 398, 399, 400, 401, 402, 403, 404, 405, 406, 407, 408, 409, 410, 411, 412, 413, 414, 415, 416, 417, 418, 419, 420, 421, 422, 423, 424, 425, 426, 427, 428, 429, 430, 431, 432, 433, 434, 435, 436, 437, 438, 439, 440, 441, 442, 443, 444, 445, 446, 447, 448, 449, 450, 451, 452, 453, 454, 455, 456, 457, 458, 459, 460, 461, 462, 463, 464, 465, 466, 467, 468, 469, 470, 471, 472, 473, 474, 475, 476] (by decide +kernel) (by decide +kernel)
set_option maxRecDepth 20000 in
theorem gX11_errorKind_X11_carryOutText : GoodIn wsX11_errorKind (wsV RX11 325 RX11 yX11_carryOutText wsX11_carryOutText) := goodIn_app (goodIn_of _ (by decide +kernel)) ggX11_errorKind_X11_carryOutText
theorem dX11_errorKind_0 : decode cX11_errorKind 0 = .ok (.aload_n 0, 1) := by decide +kernel
theorem dX11_errorKind_1 : decode cX11_errorKind 1 = .ok (.invokevirtual 325, 3) := by decide +kernel
theorem dX11_errorKind_4 : decode cX11_errorKind 4 = .ok (.pop, 1) := by decide +kernel
theorem dX11_errorKind_5 : decode cX11_errorKind 5 = .ok (.aload_n 0, 1) := by decide +kernel
theorem dX11_errorKind_6 : decode cX11_errorKind 6 = .ok (.getfield 71, 3) := by decide +kernel
theorem dX11_errorKind_9 : decode cX11_errorKind 9 = .ok (.getfield 328, 3) := by decide +kernel
theorem dX11_errorKind_12 : decode cX11_errorKind 12 = .ok (.ireturn, 1) := by decide +kernel
set_option maxRecDepth 20000 in
theorem ggX11_errorPlace_X11_carryOutText : GoodIn wsX11_errorPlace wsX11_carryOutText := goodIn_r _ [6, 1, 7, 8, 9, 10, 11, 12, 13, 14, 15, 16, 17, 18, 19, 20, 21, 22, 23, 24, 25, 26, 27, 28, 29, 30, 31, 32, 33, 34, 35, 36, 37, 38, 39, 40, 41, 42, 43, 44, 45, 46, 47, 48, 49, 50, 51, 52, 53, 54, 55, 56, 57, 58, 59, 60, 61, 62, 63, 64, 65, 66, 67, 68, 69, 70, 71, 72, 73, 74, 75, 76, 77, 78, 79, 80, 81, 82, 83, 84, 85, 86, 87, 88, 89, 90, 91, 92, 93, 94, 95, 96, 97, 98, 99, 100, 101, 102, 103, 104, 105, 106, 107, 108, 109, 110, 111, 112, 113, 114, 115, 116, 117, 118, 119, 120, 121, 122, 123, 124, 125, 126, 127, 128, 129, 130, 131, 132, 133, 134, 135, 136, 137, 138, 139, 140, 141, 142, 143, 144, 145, 146, 147, 148, 149, 150, 151, 152, 153, 154, 155, 156, 157, 158, 159, 160, 161, 162, 163, 5, 164, 165, 166, 167, 168, 169, 170, 171, 172, 173, 174, 175, 176, 177, 178, 179, 180, 181, 182, 183, 184, 185, 186, 187, 188, 189, 190, 191, 192, 193, 194, 195, 196, 197, 198, 199, 200, 201, 202, 203, 204, 205, 206, 207, 208, 209, 210, 211, 212, 213, 214, 215, 216, 217, 218, 219, 220, 221, 222, 223, 224, 225, 226, 227, 228, 229, 230, 231, 232, 233, 234, 235, 236, 237, 238, 239, 240, 241, 242, 243, 244, 245, 246, 247, 248, 249, 250, 251, 252, 253, 254, 255, 256, 257, 258, 259, 260, 261, 262, 263, 264, 265, 266, 267, 268, 269, 270, 271, 272, 273, 274, 275, 276, 277, 278, 279, 280, 281, 282, 283, 284, 285, 286, 287, 288, 289, 290, 291, 292, 293, 294, 295, 296, 297, 298, 299, 300, 301, 302, 303, 304, 305, 306, 307, 308, 309, 310, 311, 312, 313, 314, 315, 316, 317, 318, 319, 320, 321, 322, 323, 324, 325, 326, 327, 328, 329, 330, 331, 332, 333, 334, 335, 336, 337, 338, 339, 340, 341, 342, 343, 344, 345, 346, 347, 348, 349, 350, 351, 352, 353, 354, 355, 356, 357, 358, 359, 360, 361, 362, 363, 364, 365, 366, 367, 368, 369, 370, 371, 372, 373, 374, 375, 376, 377, 378, 379, 380, 381, 382, 383, 384, 385, 386, 387, 388, 389, 390, 391, 392, 393, 394, 395, 396, 397, 398, 399, 400, 401, 402, 403, 404, 405, 406, 407, 408, 409, 410, 411, 412, 413, 414, 415, 416, 417, 418, 419, 420, 421, 422, 423, 424, 425, 426, 427, 428, 429, 430, 431, 432, 433, 434, 435, 436, 437, 438, 439, 440, 441, 442, 443, 444, 445, 446, 447, 448, 449, 450, 451, 452, 453, 454, 455, 456, 457, 458, 459, 460, 461, 462, 463, 464, 465, 466, 467, 468, 469, 470, 471, 472, 473, 474, 475, 476] (by decide +kernel) (by decide +kernel)
set_option maxRecDepth 20000 in
theorem gX11_errorPlace_X11_carryOutText : GoodIn wsX11_errorPlace (wsV RX11 325 RX11 yX11_carryOutText wsX11_carryOutText) := goodIn_app (goodIn_of _ (by decide +kernel)) ggX11_errorPlace_X11_carryOutText
theorem dX11_errorPlace_0 : decode cX11_errorPlace 0 = .ok (.aload_n 0, 1) := by decide +kernel
theorem dX11_errorPlace_1 : decode cX11_errorPlace 1 = .ok (.invokevirtual 325, 3) := by decide +kernel
theorem dX11_errorPlace_4 : decode cX11_errorPlace 4 = .ok (.pop, 1) := by decide +kernel
theorem dX11_errorPlace_5 : decode cX11_errorPlace 5 = .ok (.aload_n 0, 1) := by decide +kernel
theorem dX11_errorPlace_6 : decode cX11_errorPlace 6 = .ok (.getfield 71, 3) := by decide +kernel
theorem dX11_errorPlace_9 : decode cX11_errorPlace 9 = .ok (.getfield 331, 3) := by decide +kernel
theorem dX11_errorPlace_12 : decode cX11_errorPlace 12 = .ok (.ireturn, 1) := by decide +kernel
set_option maxRecDepth 20000 in
theorem ggX11_run_X11_carryOutText : GoodIn wsX11_run wsX11_carryOutText := goodIn_r _ [10, 3, 11, 5, 4, 12, 13, 14, 15, 16, 17, 18, 19, 20, 21, 22, 23, 24, 25, 26, 27, 28, 29, 30, 31, 32, 33, 34, 35, 36, 37, 38, 39, 40, 41, 42, 43, 44, 45, 46, 47, 48, 49, 50, 51, 52, 53, 54, 55, 56, 57, 58, 59, 60, 61, 62, 63, 64, 65, 66, 67, 68, 69, 70, 71, 72, 73, 74, 75, 76, 77, 78, 79, 80, 81, 82, 83, 84, 85, 86, 87, 88, 89, 90, 91, 92, 93, 94, 95, 96, 97, 98, 99, 100, 101, 102, 103, 104, 105, 106, 107, 108, 109, 110, 111, 112, 113, 114, 115, 116, 117, 118, 119, 120, 121, 122, 123, 124, 125, 126, 127, 128, 129, 130, 131, 132, 133, 134, 135, 136, 137, 138, 139, 140, 141, 142, 143, 144, 145, 146, 147, 148, 149, 150, 151, 152, 153, 154, 155, 156, 157, 158, 159, 160, 161, 162, 163, 164, 165, 9, 166, 167, 168, 169, 170, 171, 172, 173, 174, 175, 176, 177, 178, 179, 180, 181, 182, 183, 184, 185, 186, 187, 188, 189, 190, 191, 192, 193, 194, 195, 196, 197, 198, 199, 200, 201, 202, 203, 204, 205, 206, 207, 208, 209, 210, 211, 212, 213, 214, 215, 216, 217, 218, 219, 220, 221, 222, 223, 224, 225, 226, 227, 228, 229, 230, 231, 232, 233, 234, 235, 236, 237, 238, 239, 240, 241, 242, 243, 244, 245, 246, 247, 248, 249, 250, 251, 252, 253, 254, 255, 256, 257, 258, 259, 260, 261, 262, 263, 264, 265, 266, 267, 268, 269, 270, 271, 272, 273, 274, 275, 276, 277, 278, 279, 280, 281, 282, 283, 284, 285, 286, 287, 288, 289, 290, 291, 292, 293, 294, 295, 296, 297, 298, 299, 300, 301, 302, 303, 304, 305, 306, 307, 308, 309, 310, 311, 312, 313, 314, 315, 316, 317, 318, 319, 320, 321, 322, 323, 324, 325, 326, 327, 328, 329, 330, 331, 332, 333, 334, 335, 336, 337, 338, 339, 340, 341, 342, 343, 344, 345, 346, 347, 348, 349, 350, 351, 352, 353, 354, 355, 356, 357, 358, 359, 360, 361, 362, 363, 364, 365, 366, 367, 368, 369, 370, 371, 372, 373, 374, 375, 376, 377, 378, 379, 380, 381, 382, 383, 384, 385, 386, 387, 388, 389, 390, 391, 392, 393, 394, 395, 396, 397, 398, 399, 400, 401, 402, 403, 404, 405, 406, 407, 408, 409, 410, 411, 412, 413, 414, 415, 416, 417, 418, 419, 420, 421, 422, 423, 424, 425, 426, 427, 428, 429, 430, 431, 432, 433, 434, 435, 436, 437, 438, 439, 440, 441, 442, 443, 444, 445, 446, 447, 448, 449, 450, 451, 452, 453, 454, 455, 456, 457, 458, 459, 460, 461, 462, 463, 464, 465, 466, 467, 468, 469, 470, 471, 472, 473, 474, 475, 476, 477, 478] (by decide +kernel) (by decide +kernel)
set_option maxRecDepth 20000 in
theorem gX11_run_X11_carryOutText : GoodIn wsX11_run (wsV RX11 325 RX11 yX11_carryOutText wsX11_carryOutText) := goodIn_app (goodIn_of _ (by decide +kernel)) ggX11_run_X11_carryOutText
set_option maxRecDepth 20000 in
theorem ggX11_run_X9_takeOver : GoodIn wsX11_run wsX9_takeOver := goodIn_r _ [159, 160, 161, 123, 124, 125, 162, 445, 446] (by decide +kernel) (by decide +kernel)
set_option maxRecDepth 20000 in
theorem gX11_run_X9_takeOver : GoodIn wsX11_run (wsV RX11 153 RX9 yX9_takeOver wsX9_takeOver) := goodIn_app (goodIn_of _ (by decide +kernel)) ggX11_run_X9_takeOver
theorem dX11_run_0 : decode cX11_run 0 = .ok (.aload_n 0, 1) := by decide +kernel
theorem dX11_run_1 : decode cX11_run 1 = .ok (.invokevirtual 325, 3) := by decide +kernel
theorem dX11_run_4 : decode cX11_run 4 = .ok (.istore_n 1, 1) := by decide +kernel
theorem dX11_run_5 : decode cX11_run 5 = .ok (.aload_n 0, 1) := by decide +kernel
theorem dX11_run_6 : decode cX11_run 6 = .ok (.getfield 71, 3) := by decide +kernel
theorem dX11_run_9 : decode cX11_run 9 = .ok (.getfield 328, 3) := by decide +kernel
theorem dX11_run_12 : decode cX11_run 12 = .ok (.ifCond .eq 14, 3) := by decide +kernel
theorem dX11_run_15 : decode cX11_run 15 = .ok (.new 245, 3) := by decide +kernel
theorem dX11_run_18 : decode cX11_run 18 = .ok (.dup, 1) := by decide +kernel
theorem dX11_run_19 : decode cX11_run 19 = .ok (.ldc_w 334, 3) := by decide +kernel
theorem dX11_run_22 : decode cX11_run 22 = .ok (.invokespecial 249, 3) := by decide +kernel
theorem dX11_run_25 : decode cX11_run 25 = .ok (.athrow, 1) := by decide +kernel
theorem dX11_run_26 : decode cX11_run 26 = .ok (.iconst 0, 1) := by decide +kernel
theorem dX11_run_27 : decode cX11_run 27 = .ok (.istore_n 2, 1) := by decide +kernel
theorem dX11_run_28 : decode cX11_run 28 = .ok (.iload_n 2, 1) := by decide +kernel
theorem dX11_run_29 : decode cX11_run 29 = .ok (.bipush 8, 2) := by decide +kernel
theorem dX11_run_31 : decode cX11_run 31 = .ok (.if_icmp .ge 24, 3) := by decide +kernel
theorem dX11_run_34 : decode cX11_run 34 = .ok (.aload_n 0, 1) := by decide +kernel
theorem dX11_run_35 : decode cX11_run 35 = .ok (.getfield 18, 3) := by decide +kernel
theorem dX11_run_38 : decode cX11_run 38 = .ok (.iload_n 2, 1) := by decide +kernel
theorem dX11_run_39 : decode cX11_run 39 = .ok (.aaload, 1) := by decide +kernel
theorem dX11_run_40 : decode cX11_run 40 = .ok (.aload_n 0, 1) := by decide +kernel
theorem dX11_run_41 : decode cX11_run 41 = .ok (.getfield 22, 3) := by decide +kernel
theorem dX11_run_44 : decode cX11_run 44 = .ok (.iload_n 2, 1) := by decide +kernel
theorem dX11_run_45 : decode cX11_run 45 = .ok (.aaload, 1) := by decide +kernel
theorem dX11_run_46 : decode cX11_run 46 = .ok (.invokevirtual 153, 3) := by decide +kernel
theorem dX11_run_49 : decode cX11_run 49 = .ok (.iinc 2 1, 3) := by decide +kernel
theorem dX11_run_52 : decode cX11_run 52 = .ok (.goto (-24), 3) := by decide +kernel
theorem dX11_run_55 : decode cX11_run 55 = .ok (.iload_n 1, 1) := by decide +kernel
theorem dX11_run_56 : decode cX11_run 56 = .ok (.ireturn, 1) := by decide +kernel
set_option maxRecDepth 20000 in
theorem ggX11_errors_X11_tapeOf : GoodIn wsX11_errors wsX11_tapeOf := goodIn_ca (goodIn_r _ [8, 9, 10, 11, 317, 318, 319, 320, 321, 322, 323, 324, 325, 326, 327, 328, 329] (by decide +kernel) (by decide +kernel)) (goodIn_sub (fun _ h => List.mem_cons_of_mem _ (List.mem_append_right _ h)) (by decide +kernel))
set_option maxRecDepth 20000 in
theorem gX11_errors_X11_tapeOf : GoodIn wsX11_errors (wsV RX11 86 RX11 yX11_tapeOf wsX11_tapeOf) := goodIn_app (goodIn_of _ (by decide +kernel)) ggX11_errors_X11_tapeOf
set_option maxRecDepth 20000 in
theorem ggX11_errors_X1_countFailures : GoodIn wsX11_errors wsX1_countFailures := goodIn_r _ [16, 17, 18, 19, 20, 21, 22, 23, 24, 25, 26, 27, 28, 29, 30, 31, 32, 33, 34, 35, 36, 37, 38, 39, 40, 41, 42, 43, 44, 45, 46, 47, 48, 49, 50, 51, 52, 53, 54, 55, 56, 57, 58, 59, 60, 61, 62, 63, 64, 65, 66, 67, 68, 69, 70, 71, 72, 73, 74, 75, 76, 77, 78, 79, 80, 81, 82, 83, 84, 85, 86, 87, 88, 89, 90, 91, 92, 93, 94, 95, 96, 97, 98, 99, 100, 101, 102, 103, 104, 105, 106, 107, 15, 108, 109, 110, 111, 112, 113, 114, 115, 116, 117, 118, 119, 120, 121, 122, 123, 124, 125, 126, 127, 128, 129, 130, 131, 132, 133, 134, 135, 136, 137, 138, 139, 140, 141, 142, 143, 144, 145, 146, 147, 148, 149, 150, 151, 152, 153, 154, 155, 156, 157, 158, 159, 160, 161, 162, 163, 164, 165, 166, 167, 168, 169, 170, 171, 172, 173, 174, 175, 176, 177, 178, 179, 180, 181, 182, 183, 184, 185, 186, 187, 188, 189, 190, 191, 192, 193, 194, 195, 196, 197, 198, 199, 200, 201, 202, 203, 204, 205, 206, 207, 208, 209, 210, 211, 212, 213, 214, 215, 216, 217, 218, 219, 220, 221, 222, 223, 224, 225, 226, 227, 228, 229, 230, 231, 232, 233, 234, 235, 236, 237, 238, 239, 240, 241, 242, 243, 244, 245, 246, 247, 248, 249, 250, 251, 252, 253, 254, 255, 256, 257, 258, 259, 260, 261, 262, 263, 264, 265, 266, 267, 268, 269, 270, 271, 272, 273, 274, 275, 276, 277, 278, 279, 280, 281, 282, 283, 284, 285, 286, 287, 288, 289, 290, 291, 292, 293, 294, 295, 296, 297, 298, 299, 300, 301, 302, 303, 304, 305, 306, 307, 308, 309, 310, 311, 312, 313, 314, 315, 316, 330, 331, 332, 333, 334, 335, 336, 337, 338, 339, 340, 341, 342, 343, 344, 345, 346, 347, 348, 349, 350, 351, 352, 353, 354, 355, 356, 357, 358, 359, 360, 361, 362, 363, 364, 365, 366, 367, 368, 369, 370, 371, 372, 373, 374, 375, 376, 377, 378, 379, 380, 381, 382, 383, 384] (by decide +kernel) (by decide +kernel)
set_option maxRecDepth 20000 in
theorem gX11_errors_X1_countFailures : GoodIn wsX11_errors (wsV RX11 336 RX1 yX1_countFailures wsX1_countFailures) := goodIn_app (goodIn_of _ (by decide +kernel)) ggX11_errors_X1_countFailures
theorem dX11_errors_0 : decode cX11_errors 0 = .ok (.aload_n 0, 1) := by decide +kernel
theorem dX11_errors_1 : decode cX11_errors 1 = .ok (.getfield 78, 3) := by decide +kernel
theorem dX11_errors_4 : decode cX11_errors 4 = .ok (.aload_n 0, 1) := by decide +kernel
theorem dX11_errors_5 : decode cX11_errors 5 = .ok (.getfield 10, 3) := by decide +kernel
theorem dX11_errors_8 : decode cX11_errors 8 = .ok (.aload_n 0, 1) := by decide +kernel
theorem dX11_errors_9 : decode cX11_errors 9 = .ok (.iload_n 1, 1) := by decide +kernel
theorem dX11_errors_10 : decode cX11_errors 10 = .ok (.invokevirtual 86, 3) := by decide +kernel
theorem dX11_errors_13 : decode cX11_errors 13 = .ok (.aload_n 0, 1) := by decide +kernel
theorem dX11_errors_14 : decode cX11_errors 14 = .ok (.getfield 33, 3) := by decide +kernel
theorem dX11_errors_17 : decode cX11_errors 17 = .ok (.invokevirtual 336, 3) := by decide +kernel
theorem dX11_errors_20 : decode cX11_errors 20 = .ok (.ireturn, 1) := by decide +kernel
set_option maxRecDepth 20000 in
theorem ggX11_meanKey_X11_tapeOf : GoodIn wsX11_meanKey wsX11_tapeOf := goodIn_ca (goodIn_r _ [6, 7, 8, 9, 29, 30, 31, 32, 33, 34, 35, 36, 37, 38, 39, 40, 41] (by decide +kernel) (by decide +kernel)) (goodIn_sub (fun _ h => List.mem_cons_of_mem _ (List.mem_append_right _ h)) (by decide +kernel))
set_option maxRecDepth 20000 in
theorem gX11_meanKey_X11_tapeOf : GoodIn wsX11_meanKey (wsV RX11 86 RX11 yX11_tapeOf wsX11_tapeOf) := goodIn_app (goodIn_of _ (by decide +kernel)) ggX11_meanKey_X11_tapeOf
set_option maxRecDepth 20000 in
theorem ggX11_meanKey_X9_keyAt : GoodIn wsX11_meanKey wsX9_keyAt := goodIn_r _ [14, 15, 16, 17, 13, 18, 19, 20, 21, 22, 23, 24, 25, 26, 27, 28, 42, 43, 44] (by decide +kernel) (by decide +kernel)
set_option maxRecDepth 20000 in
theorem gX11_meanKey_X9_keyAt : GoodIn wsX11_meanKey (wsV RX11 283 RX9 yX9_keyAt wsX9_keyAt) := goodIn_app (goodIn_of _ (by decide +kernel)) ggX11_meanKey_X9_keyAt
theorem dX11_meanKey_0 : decode cX11_meanKey 0 = .ok (.aload_n 0, 1) := by decide +kernel
theorem dX11_meanKey_1 : decode cX11_meanKey 1 = .ok (.iload_n 1, 1) := by decide +kernel
theorem dX11_meanKey_2 : decode cX11_meanKey 2 = .ok (.invokevirtual 86, 3) := by decide +kernel
theorem dX11_meanKey_5 : decode cX11_meanKey 5 = .ok (.astore_n 2, 1) := by decide +kernel
theorem dX11_meanKey_6 : decode cX11_meanKey 6 = .ok (.aload_n 2, 1) := by decide +kernel
theorem dX11_meanKey_7 : decode cX11_meanKey 7 = .ok (.getfield 105, 3) := by decide +kernel
theorem dX11_meanKey_10 : decode cX11_meanKey 10 = .ok (.ifCond .ne 5, 3) := by decide +kernel
theorem dX11_meanKey_13 : decode cX11_meanKey 13 = .ok (.dconst 0, 1) := by decide +kernel
theorem dX11_meanKey_14 : decode cX11_meanKey 14 = .ok (.dreturn, 1) := by decide +kernel
theorem dX11_meanKey_15 : decode cX11_meanKey 15 = .ok (.iconst 0, 1) := by decide +kernel
theorem dX11_meanKey_16 : decode cX11_meanKey 16 = .ok (.istore_n 3, 1) := by decide +kernel
theorem dX11_meanKey_17 : decode cX11_meanKey 17 = .ok (.iconst 0, 1) := by decide +kernel
theorem dX11_meanKey_18 : decode cX11_meanKey 18 = .ok (.istore 4, 2) := by decide +kernel
theorem dX11_meanKey_20 : decode cX11_meanKey 20 = .ok (.iload 4, 2) := by decide +kernel
theorem dX11_meanKey_22 : decode cX11_meanKey 22 = .ok (.aload_n 2, 1) := by decide +kernel
theorem dX11_meanKey_23 : decode cX11_meanKey 23 = .ok (.getfield 105, 3) := by decide +kernel
theorem dX11_meanKey_26 : decode cX11_meanKey 26 = .ok (.if_icmp .ge 22, 3) := by decide +kernel
theorem dX11_meanKey_29 : decode cX11_meanKey 29 = .ok (.iload_n 3, 1) := by decide +kernel
theorem dX11_meanKey_30 : decode cX11_meanKey 30 = .ok (.aload_n 2, 1) := by decide +kernel
theorem dX11_meanKey_31 : decode cX11_meanKey 31 = .ok (.aload_n 0, 1) := by decide +kernel
theorem dX11_meanKey_32 : decode cX11_meanKey 32 = .ok (.getfield 10, 3) := by decide +kernel
theorem dX11_meanKey_35 : decode cX11_meanKey 35 = .ok (.iload 4, 2) := by decide +kernel
theorem dX11_meanKey_37 : decode cX11_meanKey 37 = .ok (.invokevirtual 283, 3) := by decide +kernel
theorem dX11_meanKey_40 : decode cX11_meanKey 40 = .ok (.iadd, 1) := by decide +kernel
theorem dX11_meanKey_41 : decode cX11_meanKey 41 = .ok (.istore_n 3, 1) := by decide +kernel
theorem dX11_meanKey_42 : decode cX11_meanKey 42 = .ok (.iinc 4 1, 3) := by decide +kernel
theorem dX11_meanKey_45 : decode cX11_meanKey 45 = .ok (.goto (-25), 3) := by decide +kernel
theorem dX11_meanKey_48 : decode cX11_meanKey 48 = .ok (.iload_n 3, 1) := by decide +kernel
theorem dX11_meanKey_49 : decode cX11_meanKey 49 = .ok (.i2d, 1) := by decide +kernel
theorem dX11_meanKey_50 : decode cX11_meanKey 50 = .ok (.aload_n 2, 1) := by decide +kernel
theorem dX11_meanKey_51 : decode cX11_meanKey 51 = .ok (.getfield 105, 3) := by decide +kernel
theorem dX11_meanKey_54 : decode cX11_meanKey 54 = .ok (.i2d, 1) := by decide +kernel
theorem dX11_meanKey_55 : decode cX11_meanKey 55 = .ok (.ddiv, 1) := by decide +kernel
theorem dX11_meanKey_56 : decode cX11_meanKey 56 = .ok (.dreturn, 1) := by decide +kernel
set_option maxRecDepth 20000 in
theorem ggX11_sortedShare_X9_isInOrder : GoodIn wsX11_sortedShare wsX9_isInOrder := goodIn_r _ [8, 9, 10, 11, 12, 7, 13, 14, 15, 16, 17, 18, 19, 20, 34, 35, 36, 37, 38] (by decide +kernel) (by decide +kernel)
set_option maxRecDepth 20000 in
theorem gX11_sortedShare_X9_isInOrder : GoodIn wsX11_sortedShare (wsV RX11 146 RX9 yX9_isInOrder wsX9_isInOrder) := goodIn_app (goodIn_of _ (by decide +kernel)) ggX11_sortedShare_X9_isInOrder
theorem dX11_sortedShare_0 : decode cX11_sortedShare 0 = .ok (.iconst 0, 1) := by decide +kernel
theorem dX11_sortedShare_1 : decode cX11_sortedShare 1 = .ok (.istore_n 1, 1) := by decide +kernel
theorem dX11_sortedShare_2 : decode cX11_sortedShare 2 = .ok (.iconst 0, 1) := by decide +kernel
theorem dX11_sortedShare_3 : decode cX11_sortedShare 3 = .ok (.istore_n 2, 1) := by decide +kernel
theorem dX11_sortedShare_4 : decode cX11_sortedShare 4 = .ok (.iload_n 2, 1) := by decide +kernel
theorem dX11_sortedShare_5 : decode cX11_sortedShare 5 = .ok (.bipush 8, 2) := by decide +kernel
theorem dX11_sortedShare_7 : decode cX11_sortedShare 7 = .ok (.if_icmp .ge 34, 3) := by decide +kernel
theorem dX11_sortedShare_10 : decode cX11_sortedShare 10 = .ok (.iload_n 1, 1) := by decide +kernel
theorem dX11_sortedShare_11 : decode cX11_sortedShare 11 = .ok (.aload_n 0, 1) := by decide +kernel
theorem dX11_sortedShare_12 : decode cX11_sortedShare 12 = .ok (.getfield 18, 3) := by decide +kernel
theorem dX11_sortedShare_15 : decode cX11_sortedShare 15 = .ok (.iload_n 2, 1) := by decide +kernel
theorem dX11_sortedShare_16 : decode cX11_sortedShare 16 = .ok (.aaload, 1) := by decide +kernel
theorem dX11_sortedShare_17 : decode cX11_sortedShare 17 = .ok (.aload_n 0, 1) := by decide +kernel
theorem dX11_sortedShare_18 : decode cX11_sortedShare 18 = .ok (.getfield 10, 3) := by decide +kernel
theorem dX11_sortedShare_21 : decode cX11_sortedShare 21 = .ok (.iconst 0, 1) := by decide +kernel
theorem dX11_sortedShare_22 : decode cX11_sortedShare 22 = .ok (.invokevirtual 146, 3) := by decide +kernel
theorem dX11_sortedShare_25 : decode cX11_sortedShare 25 = .ok (.ifCond .eq 7, 3) := by decide +kernel
theorem dX11_sortedShare_28 : decode cX11_sortedShare 28 = .ok (.iconst 1, 1) := by decide +kernel
theorem dX11_sortedShare_29 : decode cX11_sortedShare 29 = .ok (.goto 4, 3) := by decide +kernel
theorem dX11_sortedShare_32 : decode cX11_sortedShare 32 = .ok (.iconst 0, 1) := by decide +kernel
theorem dX11_sortedShare_33 : decode cX11_sortedShare 33 = .ok (.iadd, 1) := by decide +kernel
theorem dX11_sortedShare_34 : decode cX11_sortedShare 34 = .ok (.istore_n 1, 1) := by decide +kernel
theorem dX11_sortedShare_35 : decode cX11_sortedShare 35 = .ok (.iinc 2 1, 3) := by decide +kernel
theorem dX11_sortedShare_38 : decode cX11_sortedShare 38 = .ok (.goto (-34), 3) := by decide +kernel
theorem dX11_sortedShare_41 : decode cX11_sortedShare 41 = .ok (.iload_n 1, 1) := by decide +kernel
theorem dX11_sortedShare_42 : decode cX11_sortedShare 42 = .ok (.i2f, 1) := by decide +kernel
theorem dX11_sortedShare_43 : decode cX11_sortedShare 43 = .ok (.ldc_w 340, 3) := by decide +kernel
theorem dX11_sortedShare_46 : decode cX11_sortedShare 46 = .ok (.fdiv, 1) := by decide +kernel
theorem dX11_sortedShare_47 : decode cX11_sortedShare 47 = .ok (.freturn, 1) := by decide +kernel
theorem dX11_tapeOf_0 : decode cX11_tapeOf 0 = .ok (.iload_n 1, 1) := by decide +kernel
theorem dX11_tapeOf_1 : decode cX11_tapeOf 1 = .ok (.ifCond .lt 9, 3) := by decide +kernel
theorem dX11_tapeOf_4 : decode cX11_tapeOf 4 = .ok (.iload_n 1, 1) := by decide +kernel
theorem dX11_tapeOf_5 : decode cX11_tapeOf 5 = .ok (.bipush 8, 2) := by decide +kernel
theorem dX11_tapeOf_7 : decode cX11_tapeOf 7 = .ok (.if_icmp .lt 14, 3) := by decide +kernel
theorem dX11_tapeOf_10 : decode cX11_tapeOf 10 = .ok (.new 138, 3) := by decide +kernel
theorem dX11_tapeOf_13 : decode cX11_tapeOf 13 = .ok (.dup, 1) := by decide +kernel
theorem dX11_tapeOf_14 : decode cX11_tapeOf 14 = .ok (.ldc_w 341, 3) := by decide +kernel
theorem dX11_tapeOf_17 : decode cX11_tapeOf 17 = .ok (.invokespecial 142, 3) := by decide +kernel
theorem dX11_tapeOf_20 : decode cX11_tapeOf 20 = .ok (.athrow, 1) := by decide +kernel
theorem dX11_tapeOf_21 : decode cX11_tapeOf 21 = .ok (.aload_n 0, 1) := by decide +kernel
theorem dX11_tapeOf_22 : decode cX11_tapeOf 22 = .ok (.getfield 18, 3) := by decide +kernel
theorem dX11_tapeOf_25 : decode cX11_tapeOf 25 = .ok (.iload_n 1, 1) := by decide +kernel
theorem dX11_tapeOf_26 : decode cX11_tapeOf 26 = .ok (.aaload, 1) := by decide +kernel
theorem dX11_tapeOf_27 : decode cX11_tapeOf 27 = .ok (.areturn, 1) := by decide +kernel
set_option maxRecDepth 20000 in
theorem ggX11_sortedTapeOf_X11_tapeOf : GoodIn wsX11_sortedTapeOf wsX11_tapeOf := goodIn_ca (goodIn_r _ [8, 9, 10, 11, 29, 30, 31, 32, 33, 34, 35, 36, 37, 38, 39, 40, 41] (by decide +kernel) (by decide +kernel)) (goodIn_sub (fun _ h => List.mem_cons_of_mem _ (List.mem_append_right _ h)) (by decide +kernel))
set_option maxRecDepth 20000 in
theorem gX11_sortedTapeOf_X11_tapeOf : GoodIn wsX11_sortedTapeOf (wsV RX11 86 RX11 yX11_tapeOf wsX11_tapeOf) := goodIn_app (goodIn_of _ (by decide +kernel)) ggX11_sortedTapeOf_X11_tapeOf
set_option maxRecDepth 20000 in
theorem ggX11_sortedTapeOf_X9_isInOrder : GoodIn wsX11_sortedTapeOf wsX9_isInOrder := goodIn_r _ [16, 17, 18, 19, 20, 15, 21, 22, 23, 24, 25, 26, 27, 28, 42, 43, 44, 45, 46] (by decide +kernel) (by decide +kernel)
set_option maxRecDepth 20000 in
theorem gX11_sortedTapeOf_X9_isInOrder : GoodIn wsX11_sortedTapeOf (wsV RX11 146 RX9 yX9_isInOrder wsX9_isInOrder) := goodIn_app (goodIn_of _ (by decide +kernel)) ggX11_sortedTapeOf_X9_isInOrder
theorem dX11_sortedTapeOf_0 : decode cX11_sortedTapeOf 0 = .ok (.aload_n 0, 1) := by decide +kernel
theorem dX11_sortedTapeOf_1 : decode cX11_sortedTapeOf 1 = .ok (.iload_n 1, 1) := by decide +kernel
theorem dX11_sortedTapeOf_2 : decode cX11_sortedTapeOf 2 = .ok (.invokevirtual 86, 3) := by decide +kernel
theorem dX11_sortedTapeOf_5 : decode cX11_sortedTapeOf 5 = .ok (.astore_n 2, 1) := by decide +kernel
theorem dX11_sortedTapeOf_6 : decode cX11_sortedTapeOf 6 = .ok (.aload_n 2, 1) := by decide +kernel
theorem dX11_sortedTapeOf_7 : decode cX11_sortedTapeOf 7 = .ok (.aload_n 0, 1) := by decide +kernel
theorem dX11_sortedTapeOf_8 : decode cX11_sortedTapeOf 8 = .ok (.getfield 10, 3) := by decide +kernel
theorem dX11_sortedTapeOf_11 : decode cX11_sortedTapeOf 11 = .ok (.iconst 0, 1) := by decide +kernel
theorem dX11_sortedTapeOf_12 : decode cX11_sortedTapeOf 12 = .ok (.invokevirtual 146, 3) := by decide +kernel
theorem dX11_sortedTapeOf_15 : decode cX11_sortedTapeOf 15 = .ok (.ifCond .ne 14, 3) := by decide +kernel
theorem dX11_sortedTapeOf_18 : decode cX11_sortedTapeOf 18 = .ok (.new 245, 3) := by decide +kernel
theorem dX11_sortedTapeOf_21 : decode cX11_sortedTapeOf 21 = .ok (.dup, 1) := by decide +kernel
theorem dX11_sortedTapeOf_22 : decode cX11_sortedTapeOf 22 = .ok (.ldc_w 343, 3) := by decide +kernel
theorem dX11_sortedTapeOf_25 : decode cX11_sortedTapeOf 25 = .ok (.invokespecial 249, 3) := by decide +kernel
theorem dX11_sortedTapeOf_28 : decode cX11_sortedTapeOf 28 = .ok (.athrow, 1) := by decide +kernel
theorem dX11_sortedTapeOf_29 : decode cX11_sortedTapeOf 29 = .ok (.aload_n 2, 1) := by decide +kernel
theorem dX11_sortedTapeOf_30 : decode cX11_sortedTapeOf 30 = .ok (.areturn, 1) := by decide +kernel
set_option maxRecDepth 20000 in
theorem ggX11_demandRecord_X0_has : GoodIn wsX11_demandRecord wsX0_has := goodIn_r _ [8, 9, 23, 24, 25] (by decide +kernel) (by decide +kernel)
set_option maxRecDepth 20000 in
theorem gX11_demandRecord_X0_has : GoodIn wsX11_demandRecord (wsV RX11 345 RX0 yX0_has wsX0_has) := goodIn_app (goodIn_of _ (by decide +kernel)) ggX11_demandRecord_X0_has
theorem dX11_demandRecord_0 : decode cX11_demandRecord 0 = .ok (.aload_n 0, 1) := by decide +kernel
theorem dX11_demandRecord_1 : decode cX11_demandRecord 1 = .ok (.getfield 10, 3) := by decide +kernel
theorem dX11_demandRecord_4 : decode cX11_demandRecord 4 = .ok (.iload_n 1, 1) := by decide +kernel
theorem dX11_demandRecord_5 : decode cX11_demandRecord 5 = .ok (.invokevirtual 345, 3) := by decide +kernel
theorem dX11_demandRecord_8 : decode cX11_demandRecord 8 = .ok (.ifCond .ne 14, 3) := by decide +kernel
theorem dX11_demandRecord_11 : decode cX11_demandRecord 11 = .ok (.new 138, 3) := by decide +kernel
theorem dX11_demandRecord_14 : decode cX11_demandRecord 14 = .ok (.dup, 1) := by decide +kernel
theorem dX11_demandRecord_15 : decode cX11_demandRecord 15 = .ok (.ldc_w 349, 3) := by decide +kernel
theorem dX11_demandRecord_18 : decode cX11_demandRecord 18 = .ok (.invokespecial 142, 3) := by decide +kernel
theorem dX11_demandRecord_21 : decode cX11_demandRecord 21 = .ok (.athrow, 1) := by decide +kernel
theorem dX11_demandRecord_22 : decode cX11_demandRecord 22 = .ok (.return_, 1) := by decide +kernel
theorem dX11_demandRange_0 : decode cX11_demandRange 0 = .ok (.iload_n 1, 1) := by decide +kernel
theorem dX11_demandRange_1 : decode cX11_demandRange 1 = .ok (.iload_n 2, 1) := by decide +kernel
theorem dX11_demandRange_2 : decode cX11_demandRange 2 = .ok (.if_icmp .lt 8, 3) := by decide +kernel
theorem dX11_demandRange_5 : decode cX11_demandRange 5 = .ok (.iload_n 1, 1) := by decide +kernel
theorem dX11_demandRange_6 : decode cX11_demandRange 6 = .ok (.iload_n 3, 1) := by decide +kernel
theorem dX11_demandRange_7 : decode cX11_demandRange 7 = .ok (.if_icmp .le 14, 3) := by decide +kernel
theorem dX11_demandRange_10 : decode cX11_demandRange 10 = .ok (.new 109, 3) := by decide +kernel
theorem dX11_demandRange_13 : decode cX11_demandRange 13 = .ok (.dup, 1) := by decide +kernel
theorem dX11_demandRange_14 : decode cX11_demandRange 14 = .ok (.ldc_w 351, 3) := by decide +kernel
theorem dX11_demandRange_17 : decode cX11_demandRange 17 = .ok (.invokespecial 113, 3) := by decide +kernel
theorem dX11_demandRange_20 : decode cX11_demandRange 20 = .ok (.athrow, 1) := by decide +kernel
theorem dX11_demandRange_21 : decode cX11_demandRange 21 = .ok (.return_, 1) := by decide +kernel
theorem dX11_demandRoom_0 : decode cX11_demandRoom 0 = .ok (.aload_n 0, 1) := by decide +kernel
theorem dX11_demandRoom_1 : decode cX11_demandRoom 1 = .ok (.getfield 10, 3) := by decide +kernel
theorem dX11_demandRoom_4 : decode cX11_demandRoom 4 = .ok (.getfield 125, 3) := by decide +kernel
theorem dX11_demandRoom_7 : decode cX11_demandRoom 7 = .ok (.iload_n 2, 1) := by decide +kernel
theorem dX11_demandRoom_8 : decode cX11_demandRoom 8 = .ok (.iadd, 1) := by decide +kernel
theorem dX11_demandRoom_9 : decode cX11_demandRoom 9 = .ok (.sipush 200, 3) := by decide +kernel
theorem dX11_demandRoom_12 : decode cX11_demandRoom 12 = .ok (.if_icmp .gt 14, 3) := by decide +kernel
theorem dX11_demandRoom_15 : decode cX11_demandRoom 15 = .ok (.aload_n 1, 1) := by decide +kernel
theorem dX11_demandRoom_16 : decode cX11_demandRoom 16 = .ok (.getfield 105, 3) := by decide +kernel
theorem dX11_demandRoom_19 : decode cX11_demandRoom 19 = .ok (.iload_n 2, 1) := by decide +kernel
theorem dX11_demandRoom_20 : decode cX11_demandRoom 20 = .ok (.iadd, 1) := by decide +kernel
theorem dX11_demandRoom_21 : decode cX11_demandRoom 21 = .ok (.bipush 100, 2) := by decide +kernel
theorem dX11_demandRoom_23 : decode cX11_demandRoom 23 = .ok (.if_icmp .le 14, 3) := by decide +kernel
theorem dX11_demandRoom_26 : decode cX11_demandRoom 26 = .ok (.new 245, 3) := by decide +kernel
theorem dX11_demandRoom_29 : decode cX11_demandRoom 29 = .ok (.dup, 1) := by decide +kernel
theorem dX11_demandRoom_30 : decode cX11_demandRoom 30 = .ok (.ldc_w 353, 3) := by decide +kernel
theorem dX11_demandRoom_33 : decode cX11_demandRoom 33 = .ok (.invokespecial 249, 3) := by decide +kernel
theorem dX11_demandRoom_36 : decode cX11_demandRoom 36 = .ok (.athrow, 1) := by decide +kernel
theorem dX11_demandRoom_37 : decode cX11_demandRoom 37 = .ok (.return_, 1) := by decide +kernel
set_option maxRecDepth 20000 in
theorem ggX11_demandJobUnderWay_X2_isOver : GoodIn wsX11_demandJobUnderWay wsX2_isOver := goodIn_r _ [9, 10, 24, 25, 26, 27, 28, 29, 30, 31, 32, 33, 34, 35, 36, 37, 38, 39, 40, 41, 42, 43] (by decide +kernel) (by decide +kernel)
set_option maxRecDepth 20000 in
theorem gX11_demandJobUnderWay_X2_isOver : GoodIn wsX11_demandJobUnderWay (wsV RX11 225 RX2 yX2_isOver wsX2_isOver) := goodIn_app (goodIn_of _ (by decide +kernel)) ggX11_demandJobUnderWay_X2_isOver
theorem dX11_demandJobUnderWay_0 : decode cX11_demandJobUnderWay 0 = .ok (.aload_n 0, 1) := by decide +kernel
theorem dX11_demandJobUnderWay_1 : decode cX11_demandJobUnderWay 1 = .ok (.getfield 82, 3) := by decide +kernel
theorem dX11_demandJobUnderWay_4 : decode cX11_demandJobUnderWay 4 = .ok (.ifCond .eq 13, 3) := by decide +kernel
theorem dX11_demandJobUnderWay_7 : decode cX11_demandJobUnderWay 7 = .ok (.aload_n 0, 1) := by decide +kernel
theorem dX11_demandJobUnderWay_8 : decode cX11_demandJobUnderWay 8 = .ok (.getfield 61, 3) := by decide +kernel
theorem dX11_demandJobUnderWay_11 : decode cX11_demandJobUnderWay 11 = .ok (.invokevirtual 225, 3) := by decide +kernel
theorem dX11_demandJobUnderWay_14 : decode cX11_demandJobUnderWay 14 = .ok (.ifCond .eq 14, 3) := by decide +kernel
theorem dX11_demandJobUnderWay_17 : decode cX11_demandJobUnderWay 17 = .ok (.new 245, 3) := by decide +kernel
theorem dX11_demandJobUnderWay_20 : decode cX11_demandJobUnderWay 20 = .ok (.dup, 1) := by decide +kernel
theorem dX11_demandJobUnderWay_21 : decode cX11_demandJobUnderWay 21 = .ok (.ldc_w 355, 3) := by decide +kernel
theorem dX11_demandJobUnderWay_24 : decode cX11_demandJobUnderWay 24 = .ok (.invokespecial 249, 3) := by decide +kernel
theorem dX11_demandJobUnderWay_27 : decode cX11_demandJobUnderWay 27 = .ok (.athrow, 1) := by decide +kernel
theorem dX11_demandJobUnderWay_28 : decode cX11_demandJobUnderWay 28 = .ok (.return_, 1) := by decide +kernel
set_option maxRecDepth 20000 in
theorem ggX11_askForRun_X11_tapeOf : GoodIn wsX11_askForRun wsX11_tapeOf := goodIn_ca (goodIn_r _ [11, 1, 2, 12, 87, 88, 89, 90, 91, 92, 93, 94, 95, 96, 97, 98, 99] (by decide +kernel) (by decide +kernel)) (goodIn_sub (fun _ h => List.mem_cons_of_mem _ (List.mem_append_right _ h)) (by decide +kernel))
set_option maxRecDepth 20000 in
theorem gX11_askForRun_X11_tapeOf : GoodIn wsX11_askForRun (wsV RX11 86 RX11 yX11_tapeOf wsX11_tapeOf) := goodIn_app (goodIn_of _ (by decide +kernel)) ggX11_askForRun_X11_tapeOf
set_option maxRecDepth 20000 in
theorem ggX11_askForRun_X6_makeRuns : GoodIn wsX11_askForRun wsX6_makeRuns := goodIn_r _ [17, 18, 19, 20, 21, 22, 23, 24, 25, 26, 27, 28, 29, 30, 31, 32, 33, 34, 16, 35, 36, 37, 38, 39, 40, 41, 42, 43, 44, 45, 46, 47, 48, 49, 50, 51, 52, 53, 54, 55, 56, 57, 58, 59, 60, 61, 62, 63, 64, 65, 66, 67, 68, 69, 70, 71, 72, 73, 74, 75, 76, 77, 78, 79, 80, 81, 82, 83, 84, 85, 86, 105, 106, 107, 108, 109, 100, 101, 102, 103, 104, 110, 111, 112, 113, 114, 115, 116, 117] (by decide +kernel) (by decide +kernel)
set_option maxRecDepth 20000 in
theorem gX11_askForRun_X6_makeRuns : GoodIn wsX11_askForRun (wsV RX11 177 RX6 yX6_makeRuns wsX6_makeRuns) := goodIn_app (goodIn_of _ (by decide +kernel)) ggX11_askForRun_X6_makeRuns
theorem dX11_askForRun_0 : decode cX11_askForRun 0 = .ok (.aload_n 0, 1) := by decide +kernel
theorem dX11_askForRun_1 : decode cX11_askForRun 1 = .ok (.getfield 40, 3) := by decide +kernel
theorem dX11_askForRun_4 : decode cX11_askForRun 4 = .ok (.aload_n 0, 1) := by decide +kernel
theorem dX11_askForRun_5 : decode cX11_askForRun 5 = .ok (.getfield 10, 3) := by decide +kernel
theorem dX11_askForRun_8 : decode cX11_askForRun 8 = .ok (.aload_n 0, 1) := by decide +kernel
theorem dX11_askForRun_9 : decode cX11_askForRun 9 = .ok (.iload_n 1, 1) := by decide +kernel
theorem dX11_askForRun_10 : decode cX11_askForRun 10 = .ok (.invokevirtual 86, 3) := by decide +kernel
theorem dX11_askForRun_13 : decode cX11_askForRun 13 = .ok (.aload_n 0, 1) := by decide +kernel
theorem dX11_askForRun_14 : decode cX11_askForRun 14 = .ok (.getfield 33, 3) := by decide +kernel
theorem dX11_askForRun_17 : decode cX11_askForRun 17 = .ok (.aload_n 0, 1) := by decide +kernel
theorem dX11_askForRun_18 : decode cX11_askForRun 18 = .ok (.getfield 47, 3) := by decide +kernel
theorem dX11_askForRun_21 : decode cX11_askForRun 21 = .ok (.invokevirtual 177, 3) := by decide +kernel
theorem dX11_askForRun_24 : decode cX11_askForRun 24 = .ok (.iload_n 2, 1) := by decide +kernel
theorem dX11_askForRun_25 : decode cX11_askForRun 25 = .ok (.ifCond .lt 14, 3) := by decide +kernel
theorem dX11_askForRun_28 : decode cX11_askForRun 28 = .ok (.iload_n 2, 1) := by decide +kernel
theorem dX11_askForRun_29 : decode cX11_askForRun 29 = .ok (.aload_n 0, 1) := by decide +kernel
theorem dX11_askForRun_30 : decode cX11_askForRun 30 = .ok (.getfield 47, 3) := by decide +kernel
theorem dX11_askForRun_33 : decode cX11_askForRun 33 = .ok (.getfield 181, 3) := by decide +kernel
theorem dX11_askForRun_36 : decode cX11_askForRun 36 = .ok (.if_icmp .lt 14, 3) := by decide +kernel
theorem dX11_askForRun_39 : decode cX11_askForRun 39 = .ok (.new 138, 3) := by decide +kernel
theorem dX11_askForRun_42 : decode cX11_askForRun 42 = .ok (.dup, 1) := by decide +kernel
theorem dX11_askForRun_43 : decode cX11_askForRun 43 = .ok (.ldc_w 357, 3) := by decide +kernel
theorem dX11_askForRun_46 : decode cX11_askForRun 46 = .ok (.invokespecial 142, 3) := by decide +kernel
theorem dX11_askForRun_49 : decode cX11_askForRun 49 = .ok (.athrow, 1) := by decide +kernel
theorem dX11_askForRun_50 : decode cX11_askForRun 50 = .ok (.return_, 1) := by decide +kernel
theorem dX11_byteOf_0 : decode cX11_byteOf 0 = .ok (.lload_n 0, 1) := by decide +kernel
theorem dX11_byteOf_1 : decode cX11_byteOf 1 = .ok (.iload_n 2, 1) := by decide +kernel
theorem dX11_byteOf_2 : decode cX11_byteOf 2 = .ok (.lushr, 1) := by decide +kernel
theorem dX11_byteOf_3 : decode cX11_byteOf 3 = .ok (.ldc2_w 359, 3) := by decide +kernel
theorem dX11_byteOf_6 : decode cX11_byteOf 6 = .ok (.land, 1) := by decide +kernel
theorem dX11_byteOf_7 : decode cX11_byteOf 7 = .ok (.l2i, 1) := by decide +kernel
theorem dX11_byteOf_8 : decode cX11_byteOf 8 = .ok (.ireturn, 1) := by decide +kernel
set_option maxRecDepth 20000 in
theorem ggX11_join_X9_isInOrder : GoodIn wsX11_join wsX9_isInOrder := goodIn_r _ [7, 8, 9, 10, 11, 6, 12, 13, 14, 15, 16, 17, 18, 19, 69, 70, 71, 72, 73] (by decide +kernel) (by decide +kernel)
set_option maxRecDepth 20000 in
theorem gX11_join_X9_isInOrder : GoodIn wsX11_join (wsV RX11 146 RX9 yX9_isInOrder wsX9_isInOrder) := goodIn_app (goodIn_of _ (by decide +kernel)) ggX11_join_X9_isInOrder
set_option maxRecDepth 20000 in
theorem ggX11_join_X9_empty : GoodIn wsX11_join wsX9_empty := goodIn_r _ [23, 8, 69, 70] (by decide +kernel) (by decide +kernel)
set_option maxRecDepth 20000 in
theorem gX11_join_X9_empty : GoodIn wsX11_join (wsV RX11 150 RX9 yX9_empty wsX9_empty) := goodIn_app (goodIn_of _ (by decide +kernel)) ggX11_join_X9_empty
set_option maxRecDepth 20000 in
theorem ggX11_join_X9_unite : GoodIn wsX11_join wsX9_unite := goodIn_r _ [27, 8, 9, 10, 11, 6, 12, 13, 14, 15, 16, 17, 18, 19, 28, 29, 30, 31, 69, 70, 71, 72, 73] (by decide +kernel) (by decide +kernel)
set_option maxRecDepth 20000 in
theorem gX11_join_X9_unite : GoodIn wsX11_join (wsV RX11 361 RX9 yX9_unite wsX9_unite) := goodIn_app (goodIn_of _ (by decide +kernel)) ggX11_join_X9_unite
set_option maxRecDepth 20000 in
theorem ggX11_join_X9_pick : GoodIn wsX11_join wsX9_pick := goodIn_r _ [35, 8, 36, 37, 38, 6, 39, 9, 10, 11, 12, 13, 40, 41, 42, 17, 43, 19, 44, 45, 46, 47, 28, 29, 30, 31, 69, 70, 71, 72, 73] (by decide +kernel) (by decide +kernel)
set_option maxRecDepth 20000 in
theorem gX11_join_X9_pick : GoodIn wsX11_join (wsV RX11 365 RX9 yX9_pick wsX9_pick) := goodIn_app (goodIn_of _ (by decide +kernel)) ggX11_join_X9_pick
set_option maxRecDepth 20000 in
theorem ggX11_join_X9_takeOver : GoodIn wsX11_join wsX9_takeOver := goodIn_r _ [51, 8, 52, 53, 54, 55, 13, 69, 70] (by decide +kernel) (by decide +kernel)
set_option maxRecDepth 20000 in
theorem gX11_join_X9_takeOver : GoodIn wsX11_join (wsV RX11 153 RX9 yX9_takeOver wsX9_takeOver) := goodIn_app (goodIn_of _ (by decide +kernel)) ggX11_join_X9_takeOver
theorem dX11_join_0 : decode cX11_join 0 = .ok (.aload_n 1, 1) := by decide +kernel
theorem dX11_join_1 : decode cX11_join 1 = .ok (.aload_n 0, 1) := by decide +kernel
theorem dX11_join_2 : decode cX11_join 2 = .ok (.getfield 10, 3) := by decide +kernel
theorem dX11_join_5 : decode cX11_join 5 = .ok (.iconst 0, 1) := by decide +kernel
theorem dX11_join_6 : decode cX11_join 6 = .ok (.invokevirtual 146, 3) := by decide +kernel
theorem dX11_join_9 : decode cX11_join 9 = .ok (.ifCond .eq 15, 3) := by decide +kernel
theorem dX11_join_12 : decode cX11_join 12 = .ok (.aload_n 2, 1) := by decide +kernel
theorem dX11_join_13 : decode cX11_join 13 = .ok (.aload_n 0, 1) := by decide +kernel
theorem dX11_join_14 : decode cX11_join 14 = .ok (.getfield 10, 3) := by decide +kernel
theorem dX11_join_17 : decode cX11_join 17 = .ok (.iconst 0, 1) := by decide +kernel
theorem dX11_join_18 : decode cX11_join 18 = .ok (.invokevirtual 146, 3) := by decide +kernel
theorem dX11_join_21 : decode cX11_join 21 = .ok (.ifCond .ne 5, 3) := by decide +kernel
theorem dX11_join_24 : decode cX11_join 24 = .ok (.iconst 0, 1) := by decide +kernel
theorem dX11_join_25 : decode cX11_join 25 = .ok (.ireturn, 1) := by decide +kernel
theorem dX11_join_26 : decode cX11_join 26 = .ok (.iload 4, 2) := by decide +kernel
theorem dX11_join_28 : decode cX11_join 28 = .ok (.ifCond .ne 19, 3) := by decide +kernel
theorem dX11_join_31 : decode cX11_join 31 = .ok (.aload_n 1, 1) := by decide +kernel
theorem dX11_join_32 : decode cX11_join 32 = .ok (.getfield 105, 3) := by decide +kernel
theorem dX11_join_35 : decode cX11_join 35 = .ok (.aload_n 2, 1) := by decide +kernel
theorem dX11_join_36 : decode cX11_join 36 = .ok (.getfield 105, 3) := by decide +kernel
theorem dX11_join_39 : decode cX11_join 39 = .ok (.iadd, 1) := by decide +kernel
theorem dX11_join_40 : decode cX11_join 40 = .ok (.bipush 100, 2) := by decide +kernel
theorem dX11_join_42 : decode cX11_join 42 = .ok (.if_icmp .le 5, 3) := by decide +kernel
theorem dX11_join_45 : decode cX11_join 45 = .ok (.iconst 0, 1) := by decide +kernel
theorem dX11_join_46 : decode cX11_join 46 = .ok (.ireturn, 1) := by decide +kernel
theorem dX11_join_47 : decode cX11_join 47 = .ok (.aload_n 0, 1) := by decide +kernel
theorem dX11_join_48 : decode cX11_join 48 = .ok (.getfield 26, 3) := by decide +kernel
theorem dX11_join_51 : decode cX11_join 51 = .ok (.invokevirtual 150, 3) := by decide +kernel
theorem dX11_join_54 : decode cX11_join 54 = .ok (.iload 4, 2) := by decide +kernel
theorem dX11_join_56 : decode cX11_join 56 = .ok (.ifCond .ne 19, 3) := by decide +kernel
theorem dX11_join_59 : decode cX11_join 59 = .ok (.aload_n 0, 1) := by decide +kernel
theorem dX11_join_60 : decode cX11_join 60 = .ok (.getfield 26, 3) := by decide +kernel
theorem dX11_join_63 : decode cX11_join 63 = .ok (.aload_n 0, 1) := by decide +kernel
theorem dX11_join_64 : decode cX11_join 64 = .ok (.getfield 10, 3) := by decide +kernel
theorem dX11_join_67 : decode cX11_join 67 = .ok (.aload_n 1, 1) := by decide +kernel
theorem dX11_join_68 : decode cX11_join 68 = .ok (.aload_n 2, 1) := by decide +kernel
theorem dX11_join_69 : decode cX11_join 69 = .ok (.invokevirtual 361, 3) := by decide +kernel
theorem dX11_join_72 : decode cX11_join 72 = .ok (.goto 27, 3) := by decide +kernel
theorem dX11_join_75 : decode cX11_join 75 = .ok (.aload_n 0, 1) := by decide +kernel
theorem dX11_join_76 : decode cX11_join 76 = .ok (.getfield 26, 3) := by decide +kernel
theorem dX11_join_79 : decode cX11_join 79 = .ok (.aload_n 0, 1) := by decide +kernel
theorem dX11_join_80 : decode cX11_join 80 = .ok (.getfield 10, 3) := by decide +kernel
theorem dX11_join_83 : decode cX11_join 83 = .ok (.aload_n 1, 1) := by decide +kernel
theorem dX11_join_84 : decode cX11_join 84 = .ok (.aload_n 2, 1) := by decide +kernel
theorem dX11_join_85 : decode cX11_join 85 = .ok (.iload 4, 2) := by decide +kernel
theorem dX11_join_87 : decode cX11_join 87 = .ok (.iconst 1, 1) := by decide +kernel
theorem dX11_join_88 : decode cX11_join 88 = .ok (.if_icmp .ne 7, 3) := by decide +kernel
theorem dX11_join_91 : decode cX11_join 91 = .ok (.iconst 1, 1) := by decide +kernel
theorem dX11_join_92 : decode cX11_join 92 = .ok (.goto 4, 3) := by decide +kernel
theorem dX11_join_95 : decode cX11_join 95 = .ok (.iconst 0, 1) := by decide +kernel
theorem dX11_join_96 : decode cX11_join 96 = .ok (.invokevirtual 365, 3) := by decide +kernel
theorem dX11_join_99 : decode cX11_join 99 = .ok (.aload_n 3, 1) := by decide +kernel
theorem dX11_join_100 : decode cX11_join 100 = .ok (.aload_n 0, 1) := by decide +kernel
theorem dX11_join_101 : decode cX11_join 101 = .ok (.getfield 26, 3) := by decide +kernel
theorem dX11_join_104 : decode cX11_join 104 = .ok (.invokevirtual 153, 3) := by decide +kernel
theorem dX11_join_107 : decode cX11_join 107 = .ok (.iconst 1, 1) := by decide +kernel
theorem dX11_join_108 : decode cX11_join 108 = .ok (.ireturn, 1) := by decide +kernel
set_option maxRecDepth 20000 in
theorem ggX11_carryOutText_X5_restart : GoodIn wsX11_carryOutText wsX5_restart := goodIn_r _ [9, 10, 11, 12, 419, 420, 421, 422, 423, 424, 425, 426, 427, 428, 429, 430, 431] (by decide +kernel) (by decide +kernel)
set_option maxRecDepth 20000 in
theorem gX11_carryOutText_X5_restart : GoodIn wsX11_carryOutText (wsV RX11 369 RX5 yX5_restart wsX5_restart) := goodIn_app (goodIn_of _ (by decide +kernel)) ggX11_carryOutText_X5_restart
set_option maxRecDepth 20000 in
theorem ggX11_carryOutText_X5_readStatement : GoodIn wsX11_carryOutText wsX5_readStatement := goodIn_r _ [16, 17, 18, 19, 20, 21, 22, 23, 24, 8, 25, 10, 26, 27, 28, 29, 30, 31, 32, 33, 34, 35, 36, 37, 38, 39, 40, 41, 42, 43, 44, 45, 46, 47, 48, 49, 50, 51, 52, 53, 54, 55, 56, 57, 58, 59, 60, 61, 62, 63, 64, 65, 66, 67, 68, 69, 70, 71, 72, 73, 74, 75, 76, 77, 78, 79, 80, 81, 82, 83, 84, 85, 86, 87, 88, 89, 90, 91, 92, 93, 94, 95, 96, 97, 98, 99, 100, 101, 102, 103, 104, 105, 106, 107, 108, 109, 110, 111, 112, 113, 114, 115, 116, 117, 118, 119, 120, 121, 122, 11, 12, 123, 124, 125, 126, 127, 128, 129, 130, 131, 132, 133, 134, 135, 136, 137, 138, 139, 140, 141, 142, 143, 144, 145, 146, 147, 419, 420, 421, 422, 423, 424, 425, 426, 427, 428, 429, 430, 431, 432, 433, 434, 435, 436, 437, 438] (by decide +kernel) (by decide +kernel)
set_option maxRecDepth 20000 in
theorem gX11_carryOutText_X5_readStatement : GoodIn wsX11_carryOutText (wsV RX11 372 RX5 yX5_readStatement wsX5_readStatement) := goodIn_app (goodIn_of _ (by decide +kernel)) ggX11_carryOutText_X5_readStatement
set_option maxRecDepth 20000 in
theorem ggX11_carryOutText_X9_takeOver : GoodIn wsX11_carryOutText wsX9_takeOver := goodIn_r _ [152, 153, 154, 116, 117, 118, 155, 439, 440] (by decide +kernel) (by decide +kernel)
set_option maxRecDepth 20000 in
theorem gX11_carryOutText_X9_takeOver : GoodIn wsX11_carryOutText (wsV RX11 153 RX9 yX9_takeOver wsX9_takeOver) := goodIn_app (goodIn_of _ (by decide +kernel)) ggX11_carryOutText_X9_takeOver
set_option maxRecDepth 20000 in
theorem ggX11_carryOutText_X11_carryOutStatement : GoodIn wsX11_carryOutText wsX11_carryOutStatement := goodIn_r _ [160, 1, 3, 161, 162, 163, 164, 165, 8, 166, 109, 167, 168, 159, 169, 170, 171, 172, 173, 174, 175, 176, 177, 178, 179, 180, 181, 182, 183, 184, 185, 186, 187, 188, 189, 190, 191, 192, 193, 194, 195, 116, 117, 118, 196, 197, 198, 199, 200, 201, 202, 203, 204, 205, 206, 207, 208, 209, 210, 211, 212, 213, 214, 151, 215, 153, 155, 216, 217, 218, 219, 220, 221, 222, 223, 224, 225, 226, 227, 228, 229, 230, 231, 232, 233, 234, 235, 236, 237, 238, 239, 240, 241, 242, 243, 244, 245, 246, 247, 248, 249, 250, 251, 252, 253, 254, 255, 256, 257, 258, 259, 260, 261, 262, 263, 264, 265, 266, 267, 268, 269, 270, 271, 272, 273, 274, 275, 276, 277, 278, 279, 280, 281, 282, 283, 284, 285, 286, 287, 288, 289, 290, 291, 292, 293, 294, 295, 296, 297, 298, 299, 300, 301, 302, 303, 304, 305, 306, 307, 308, 309, 310, 311, 312, 313, 314, 315, 316, 317, 318, 319, 320, 321, 322, 323, 324, 325, 326, 327, 328, 329, 330, 331, 332, 333, 334, 335, 336, 337, 338, 339, 340, 341, 342, 343, 344, 345, 346, 347, 348, 349, 350, 351, 352, 353, 354, 355, 356, 357, 358, 359, 360, 361, 362, 363, 364, 365, 366, 367, 368, 369, 370, 371, 372, 373, 374, 375, 376, 377, 378, 379, 380, 381, 382, 383, 384, 385, 386, 387, 388, 389, 390, 391, 392, 393, 394, 395, 396, 397, 148, 149, 150, 152, 154, 398, 399, 400, 401, 402, 403, 404, 405, 406, 407, 408, 409, 410, 411, 412, 413, 414, 415, 416, 417, 418, 419, 420, 421, 422, 423, 424, 425, 426, 427, 428, 429, 430, 431, 441, 442, 443, 444, 445, 446, 447, 448, 449, 450, 451, 452, 453, 454, 455, 456, 457, 458, 459, 460, 439, 440, 434, 435, 436, 437, 438, 461, 462, 463, 464, 465, 466, 467, 468, 469, 470, 471, 472] (by decide +kernel) (by decide +kernel)
set_option maxRecDepth 20000 in
theorem gX11_carryOutText_X11_carryOutStatement : GoodIn wsX11_carryOutText (wsV RX11 376 RX11 yX11_carryOutStatement wsX11_carryOutStatement) := goodIn_app (goodIn_of _ (by decide +kernel)) ggX11_carryOutText_X11_carryOutStatement
theorem dX11_carryOutText_0 : decode cX11_carryOutText 0 = .ok (.aload_n 0, 1) := by decide +kernel
theorem dX11_carryOutText_1 : decode cX11_carryOutText 1 = .ok (.getfield 71, 3) := by decide +kernel
theorem dX11_carryOutText_4 : decode cX11_carryOutText 4 = .ok (.invokevirtual 369, 3) := by decide +kernel
theorem dX11_carryOutText_7 : decode cX11_carryOutText 7 = .ok (.iconst 1, 1) := by decide +kernel
theorem dX11_carryOutText_8 : decode cX11_carryOutText 8 = .ok (.istore_n 1, 1) := by decide +kernel
theorem dX11_carryOutText_9 : decode cX11_carryOutText 9 = .ok (.iconst 0, 1) := by decide +kernel
theorem dX11_carryOutText_10 : decode cX11_carryOutText 10 = .ok (.istore_n 2, 1) := by decide +kernel
theorem dX11_carryOutText_11 : decode cX11_carryOutText 11 = .ok (.iload_n 2, 1) := by decide +kernel
theorem dX11_carryOutText_12 : decode cX11_carryOutText 12 = .ok (.sipush 160, 3) := by decide +kernel
theorem dX11_carryOutText_15 : decode cX11_carryOutText 15 = .ok (.if_icmp .gt 25, 3) := by decide +kernel
theorem dX11_carryOutText_18 : decode cX11_carryOutText 18 = .ok (.iload_n 1, 1) := by decide +kernel
theorem dX11_carryOutText_19 : decode cX11_carryOutText 19 = .ok (.ifCond .eq 21, 3) := by decide +kernel
theorem dX11_carryOutText_22 : decode cX11_carryOutText 22 = .ok (.aload_n 0, 1) := by decide +kernel
theorem dX11_carryOutText_23 : decode cX11_carryOutText 23 = .ok (.getfield 71, 3) := by decide +kernel
theorem dX11_carryOutText_26 : decode cX11_carryOutText 26 = .ok (.aload_n 0, 1) := by decide +kernel
theorem dX11_carryOutText_27 : decode cX11_carryOutText 27 = .ok (.getfield 33, 3) := by decide +kernel
theorem dX11_carryOutText_30 : decode cX11_carryOutText 30 = .ok (.invokevirtual 372, 3) := by decide +kernel
theorem dX11_carryOutText_33 : decode cX11_carryOutText 33 = .ok (.istore_n 1, 1) := by decide +kernel
theorem dX11_carryOutText_34 : decode cX11_carryOutText 34 = .ok (.iinc 2 1, 3) := by decide +kernel
theorem dX11_carryOutText_37 : decode cX11_carryOutText 37 = .ok (.goto (-26), 3) := by decide +kernel
theorem dX11_carryOutText_40 : decode cX11_carryOutText 40 = .ok (.aload_n 0, 1) := by decide +kernel
theorem dX11_carryOutText_41 : decode cX11_carryOutText 41 = .ok (.getfield 71, 3) := by decide +kernel
theorem dX11_carryOutText_44 : decode cX11_carryOutText 44 = .ok (.getfield 328, 3) := by decide +kernel
theorem dX11_carryOutText_47 : decode cX11_carryOutText 47 = .ok (.ifCond .eq 5, 3) := by decide +kernel
theorem dX11_carryOutText_50 : decode cX11_carryOutText 50 = .ok (.iconst 0, 1) := by decide +kernel
theorem dX11_carryOutText_51 : decode cX11_carryOutText 51 = .ok (.ireturn, 1) := by decide +kernel
theorem dX11_carryOutText_52 : decode cX11_carryOutText 52 = .ok (.iconst 0, 1) := by decide +kernel
theorem dX11_carryOutText_53 : decode cX11_carryOutText 53 = .ok (.istore_n 2, 1) := by decide +kernel
theorem dX11_carryOutText_54 : decode cX11_carryOutText 54 = .ok (.iload_n 2, 1) := by decide +kernel
theorem dX11_carryOutText_55 : decode cX11_carryOutText 55 = .ok (.bipush 8, 2) := by decide +kernel
theorem dX11_carryOutText_57 : decode cX11_carryOutText 57 = .ok (.if_icmp .ge 24, 3) := by decide +kernel
theorem dX11_carryOutText_60 : decode cX11_carryOutText 60 = .ok (.aload_n 0, 1) := by decide +kernel
theorem dX11_carryOutText_61 : decode cX11_carryOutText 61 = .ok (.getfield 22, 3) := by decide +kernel
theorem dX11_carryOutText_64 : decode cX11_carryOutText 64 = .ok (.iload_n 2, 1) := by decide +kernel
theorem dX11_carryOutText_65 : decode cX11_carryOutText 65 = .ok (.aaload, 1) := by decide +kernel
theorem dX11_carryOutText_66 : decode cX11_carryOutText 66 = .ok (.aload_n 0, 1) := by decide +kernel
theorem dX11_carryOutText_67 : decode cX11_carryOutText 67 = .ok (.getfield 18, 3) := by decide +kernel
theorem dX11_carryOutText_70 : decode cX11_carryOutText 70 = .ok (.iload_n 2, 1) := by decide +kernel
theorem dX11_carryOutText_71 : decode cX11_carryOutText 71 = .ok (.aaload, 1) := by decide +kernel
theorem dX11_carryOutText_72 : decode cX11_carryOutText 72 = .ok (.invokevirtual 153, 3) := by decide +kernel
theorem dX11_carryOutText_75 : decode cX11_carryOutText 75 = .ok (.iinc 2 1, 3) := by decide +kernel
theorem dX11_carryOutText_78 : decode cX11_carryOutText 78 = .ok (.goto (-24), 3) := by decide +kernel
theorem dX11_carryOutText_81 : decode cX11_carryOutText 81 = .ok (.aload_n 0, 1) := by decide +kernel
theorem dX11_carryOutText_82 : decode cX11_carryOutText 82 = .ok (.getfield 71, 3) := by decide +kernel
theorem dX11_carryOutText_85 : decode cX11_carryOutText 85 = .ok (.invokevirtual 369, 3) := by decide +kernel
theorem dX11_carryOutText_88 : decode cX11_carryOutText 88 = .ok (.iconst 0, 1) := by decide +kernel
theorem dX11_carryOutText_89 : decode cX11_carryOutText 89 = .ok (.istore_n 2, 1) := by decide +kernel
theorem dX11_carryOutText_90 : decode cX11_carryOutText 90 = .ok (.iload_n 2, 1) := by decide +kernel
theorem dX11_carryOutText_91 : decode cX11_carryOutText 91 = .ok (.sipush 160, 3) := by decide +kernel
theorem dX11_carryOutText_94 : decode cX11_carryOutText 94 = .ok (.if_icmp .gt 54, 3) := by decide +kernel
theorem dX11_carryOutText_97 : decode cX11_carryOutText 97 = .ok (.aload_n 0, 1) := by decide +kernel
theorem dX11_carryOutText_98 : decode cX11_carryOutText 98 = .ok (.getfield 71, 3) := by decide +kernel
theorem dX11_carryOutText_101 : decode cX11_carryOutText 101 = .ok (.aload_n 0, 1) := by decide +kernel
theorem dX11_carryOutText_102 : decode cX11_carryOutText 102 = .ok (.getfield 33, 3) := by decide +kernel
theorem dX11_carryOutText_105 : decode cX11_carryOutText 105 = .ok (.invokevirtual 372, 3) := by decide +kernel
theorem dX11_carryOutText_108 : decode cX11_carryOutText 108 = .ok (.ifCond .eq 40, 3) := by decide +kernel
theorem dX11_carryOutText_111 : decode cX11_carryOutText 111 = .ok (.aload_n 0, 1) := by decide +kernel
theorem dX11_carryOutText_112 : decode cX11_carryOutText 112 = .ok (.invokevirtual 376, 3) := by decide +kernel
theorem dX11_carryOutText_115 : decode cX11_carryOutText 115 = .ok (.ifCond .ne 27, 3) := by decide +kernel
theorem dX11_carryOutText_118 : decode cX11_carryOutText 118 = .ok (.aload_n 0, 1) := by decide +kernel
theorem dX11_carryOutText_119 : decode cX11_carryOutText 119 = .ok (.getfield 71, 3) := by decide +kernel
theorem dX11_carryOutText_122 : decode cX11_carryOutText 122 = .ok (.iconst 3, 1) := by decide +kernel
theorem dX11_carryOutText_123 : decode cX11_carryOutText 123 = .ok (.putfield 328, 3) := by decide +kernel
theorem dX11_carryOutText_126 : decode cX11_carryOutText 126 = .ok (.aload_n 0, 1) := by decide +kernel
theorem dX11_carryOutText_127 : decode cX11_carryOutText 127 = .ok (.getfield 71, 3) := by decide +kernel
theorem dX11_carryOutText_130 : decode cX11_carryOutText 130 = .ok (.aload_n 0, 1) := by decide +kernel
theorem dX11_carryOutText_131 : decode cX11_carryOutText 131 = .ok (.getfield 71, 3) := by decide +kernel
theorem dX11_carryOutText_134 : decode cX11_carryOutText 134 = .ok (.getfield 379, 3) := by decide +kernel
theorem dX11_carryOutText_137 : decode cX11_carryOutText 137 = .ok (.putfield 331, 3) := by decide +kernel
theorem dX11_carryOutText_140 : decode cX11_carryOutText 140 = .ok (.iload_n 2, 1) := by decide +kernel
theorem dX11_carryOutText_141 : decode cX11_carryOutText 141 = .ok (.ireturn, 1) := by decide +kernel
theorem dX11_carryOutText_142 : decode cX11_carryOutText 142 = .ok (.iinc 2 1, 3) := by decide +kernel
theorem dX11_carryOutText_145 : decode cX11_carryOutText 145 = .ok (.goto (-55), 3) := by decide +kernel
theorem dX11_carryOutText_148 : decode cX11_carryOutText 148 = .ok (.iload_n 2, 1) := by decide +kernel
theorem dX11_carryOutText_149 : decode cX11_carryOutText 149 = .ok (.ireturn, 1) := by decide +kernel
set_option maxRecDepth 20000 in
theorem ggX11_carryOutStatement_X5_tapeAt : GoodIn wsX11_carryOutStatement wsX5_tapeAt := goodIn_r _ [9, 10, 275, 276, 277, 278, 279, 280, 281, 282, 283, 284, 285, 286, 287] (by decide +kernel) (by decide +kernel)
set_option maxRecDepth 20000 in
theorem gX11_carryOutStatement_X5_tapeAt : GoodIn wsX11_carryOutStatement (wsV RX11 382 RX5 yX5_tapeAt wsX5_tapeAt) := goodIn_app (goodIn_of _ (by decide +kernel)) ggX11_carryOutStatement_X5_tapeAt
set_option maxRecDepth 20000 in
theorem ggX11_carryOutStatement_X11_isTape : GoodIn wsX11_carryOutStatement wsX11_isTape := goodIn_r _ [14] (by decide +kernel) (by decide +kernel)
set_option maxRecDepth 20000 in
theorem gX11_carryOutStatement_X11_isTape : GoodIn wsX11_carryOutStatement (va_wsS RX11 385 yX11_isTape wsX11_isTape) := goodIn_app (goodIn_of _ (by decide +kernel)) ggX11_carryOutStatement_X11_isTape
set_option maxRecDepth 20000 in
theorem ggX11_carryOutStatement_X2_doWhole : GoodIn wsX11_carryOutStatement wsX2_doWhole := goodIn_r _ [19, 20, 21, 22, 18, 23, 24, 25, 26, 27, 28, 29, 30, 31, 32, 33, 34, 35, 36, 37, 38, 39, 40, 41, 42, 43, 44, 45, 46, 47, 48, 49, 50, 51, 52, 53, 54, 55, 56, 57, 58, 59, 60, 61, 62, 63, 64, 65, 66, 67, 68, 69, 70, 71, 72, 73, 74, 75, 76, 77, 78, 79, 80, 81, 82, 83, 84, 85, 86, 87, 88, 89, 90, 91, 92, 93, 94, 95, 96, 97, 98, 99, 100, 101, 102, 103, 104, 105, 106, 107, 108, 109, 110, 111, 112, 113, 114, 115, 116, 117, 118, 119, 120, 121, 122, 123, 124, 125, 126, 127, 128, 129, 130, 131, 132, 133, 134, 135, 136, 137, 138, 139, 140, 141, 142, 143, 144, 145, 146, 147, 148, 149, 150, 151, 152, 153, 154, 155, 156, 157, 158, 159, 160, 161, 162, 163, 164, 165, 166, 167, 168, 169, 170, 171, 172, 173, 174, 175, 176, 177, 178, 179, 180, 181, 182, 183, 184, 185, 186, 187, 188, 189, 190, 191, 192, 193, 194, 195, 196, 197, 198, 199, 200, 201, 202, 203, 204, 205, 206, 207, 208, 209, 210, 211, 212, 213, 214, 215, 288, 289, 290, 291, 292, 293, 294, 295, 296, 297, 298, 299, 300, 301, 302, 303, 304, 305, 306, 307, 308, 309, 310, 311, 312, 313, 314, 315, 316, 317, 318, 319, 320, 321, 322, 323, 324, 325, 326] (by decide +kernel) (by decide +kernel)
set_option maxRecDepth 20000 in
theorem gX11_carryOutStatement_X2_doWhole : GoodIn wsX11_carryOutStatement (wsV RX11 262 RX2 yX2_doWhole wsX2_doWhole) := goodIn_app (goodIn_of _ (by decide +kernel)) ggX11_carryOutStatement_X2_doWhole
set_option maxRecDepth 20000 in
theorem ggX11_carryOutStatement_X11_join : GoodIn wsX11_carryOutStatement wsX11_join := goodIn_r _ [219, 4, 220, 221, 222, 223, 63, 224, 65, 225, 61, 62, 64, 66, 226, 68, 69, 70, 71, 72, 227, 206, 207, 208, 228, 229, 230, 231, 232, 213, 214, 215, 233, 234, 235, 236, 237, 238, 239, 240, 241, 242, 243, 244, 245, 246, 247, 248, 249, 250, 251, 252, 253, 41, 42, 43, 262, 263, 264, 265, 266, 267, 268, 269, 270, 271, 272, 273, 274, 308, 309, 318, 319, 320] (by decide +kernel) (by decide +kernel)
set_option maxRecDepth 20000 in
theorem gX11_carryOutStatement_X11_join : GoodIn wsX11_carryOutStatement (wsV RX11 266 RX11 yX11_join wsX11_join) := goodIn_app (goodIn_of _ (by decide +kernel)) ggX11_carryOutStatement_X11_join
set_option maxRecDepth 20000 in
theorem ggX11_carryOutStatement_X9_takeOver : GoodIn wsX11_carryOutStatement wsX9_takeOver := goodIn_r _ [252, 65, 253, 41, 42, 43, 66, 308, 309] (by decide +kernel) (by decide +kernel)
set_option maxRecDepth 20000 in
theorem gX11_carryOutStatement_X9_takeOver : GoodIn wsX11_carryOutStatement (wsV RX11 153 RX9 yX9_takeOver wsX9_takeOver) := goodIn_app (goodIn_of _ (by decide +kernel)) ggX11_carryOutStatement_X9_takeOver
set_option maxRecDepth 20000 in
theorem ggX11_carryOutStatement_X9_thinOut : GoodIn wsX11_carryOutStatement wsX9_thinOut := goodIn_r _ [257, 65, 253, 41, 42, 43, 66, 237, 238, 239, 63, 240, 225, 61, 62, 64, 241, 242, 243, 70, 244, 72, 308, 309, 318, 319, 320] (by decide +kernel) (by decide +kernel)
set_option maxRecDepth 20000 in
theorem gX11_carryOutStatement_X9_thinOut : GoodIn wsX11_carryOutStatement (wsV RX11 272 RX9 yX9_thinOut wsX9_thinOut) := goodIn_app (goodIn_of _ (by decide +kernel)) ggX11_carryOutStatement_X9_thinOut
set_option maxRecDepth 20000 in
theorem ggX11_carryOutStatement_X9_reverse : GoodIn wsX11_carryOutStatement wsX9_reverse := goodIn_r _ [261, 65, 253, 41, 42, 43, 66, 308, 309] (by decide +kernel) (by decide +kernel)
set_option maxRecDepth 20000 in
theorem gX11_carryOutStatement_X9_reverse : GoodIn wsX11_carryOutStatement (wsV RX11 157 RX9 yX9_reverse wsX9_reverse) := goodIn_app (goodIn_of _ (by decide +kernel)) ggX11_carryOutStatement_X9_reverse
set_option maxRecDepth 20000 in
theorem ggX11_carryOutStatement_X9_empty : GoodIn wsX11_carryOutStatement wsX9_empty := goodIn_r _ [208, 65, 308, 309] (by decide +kernel) (by decide +kernel)
set_option maxRecDepth 20000 in
theorem gX11_carryOutStatement_X9_empty : GoodIn wsX11_carryOutStatement (wsV RX11 150 RX9 yX9_empty wsX9_empty) := goodIn_app (goodIn_of _ (by decide +kernel)) ggX11_carryOutStatement_X9_empty
theorem dX11_carryOutStatement_0 : decode cX11_carryOutStatement 0 = .ok (.aload_n 0, 1) := by decide +kernel
theorem dX11_carryOutStatement_1 : decode cX11_carryOutStatement 1 = .ok (.getfield 71, 3) := by decide +kernel
theorem dX11_carryOutStatement_4 : decode cX11_carryOutStatement 4 = .ok (.iconst 0, 1) := by decide +kernel
theorem dX11_carryOutStatement_5 : decode cX11_carryOutStatement 5 = .ok (.invokevirtual 382, 3) := by decide +kernel
theorem dX11_carryOutStatement_8 : decode cX11_carryOutStatement 8 = .ok (.istore_n 1, 1) := by decide +kernel
theorem dX11_carryOutStatement_9 : decode cX11_carryOutStatement 9 = .ok (.aload_n 0, 1) := by decide +kernel
theorem dX11_carryOutStatement_10 : decode cX11_carryOutStatement 10 = .ok (.getfield 71, 3) := by decide +kernel
theorem dX11_carryOutStatement_13 : decode cX11_carryOutStatement 13 = .ok (.iconst 1, 1) := by decide +kernel
theorem dX11_carryOutStatement_14 : decode cX11_carryOutStatement 14 = .ok (.invokevirtual 382, 3) := by decide +kernel
theorem dX11_carryOutStatement_17 : decode cX11_carryOutStatement 17 = .ok (.istore_n 2, 1) := by decide +kernel
theorem dX11_carryOutStatement_18 : decode cX11_carryOutStatement 18 = .ok (.aload_n 0, 1) := by decide +kernel
theorem dX11_carryOutStatement_19 : decode cX11_carryOutStatement 19 = .ok (.getfield 71, 3) := by decide +kernel
theorem dX11_carryOutStatement_22 : decode cX11_carryOutStatement 22 = .ok (.iconst 2, 1) := by decide +kernel
theorem dX11_carryOutStatement_23 : decode cX11_carryOutStatement 23 = .ok (.invokevirtual 382, 3) := by decide +kernel
theorem dX11_carryOutStatement_26 : decode cX11_carryOutStatement 26 = .ok (.istore_n 3, 1) := by decide +kernel
theorem dX11_carryOutStatement_27 : decode cX11_carryOutStatement 27 = .ok (.iload_n 1, 1) := by decide +kernel
theorem dX11_carryOutStatement_28 : decode cX11_carryOutStatement 28 = .ok (.invokestatic 385, 3) := by decide +kernel
theorem dX11_carryOutStatement_31 : decode cX11_carryOutStatement 31 = .ok (.ifCond .eq 17, 3) := by decide +kernel
theorem dX11_carryOutStatement_34 : decode cX11_carryOutStatement 34 = .ok (.iload_n 2, 1) := by decide +kernel
theorem dX11_carryOutStatement_35 : decode cX11_carryOutStatement 35 = .ok (.invokestatic 385, 3) := by decide +kernel
theorem dX11_carryOutStatement_38 : decode cX11_carryOutStatement 38 = .ok (.ifCond .eq 10, 3) := by decide +kernel
theorem dX11_carryOutStatement_41 : decode cX11_carryOutStatement 41 = .ok (.iload_n 3, 1) := by decide +kernel
theorem dX11_carryOutStatement_42 : decode cX11_carryOutStatement 42 = .ok (.invokestatic 385, 3) := by decide +kernel
theorem dX11_carryOutStatement_45 : decode cX11_carryOutStatement 45 = .ok (.ifCond .ne 5, 3) := by decide +kernel
theorem dX11_carryOutStatement_48 : decode cX11_carryOutStatement 48 = .ok (.iconst 0, 1) := by decide +kernel
theorem dX11_carryOutStatement_49 : decode cX11_carryOutStatement 49 = .ok (.ireturn, 1) := by decide +kernel
theorem dX11_carryOutStatement_50 : decode cX11_carryOutStatement 50 = .ok (.aload_n 0, 1) := by decide +kernel
theorem dX11_carryOutStatement_51 : decode cX11_carryOutStatement 51 = .ok (.getfield 22, 3) := by decide +kernel
theorem dX11_carryOutStatement_54 : decode cX11_carryOutStatement 54 = .ok (.iload_n 1, 1) := by decide +kernel
theorem dX11_carryOutStatement_55 : decode cX11_carryOutStatement 55 = .ok (.aaload, 1) := by decide +kernel
theorem dX11_carryOutStatement_56 : decode cX11_carryOutStatement 56 = .ok (.astore 4, 2) := by decide +kernel
theorem dX11_carryOutStatement_58 : decode cX11_carryOutStatement 58 = .ok (.aload_n 0, 1) := by decide +kernel
theorem dX11_carryOutStatement_59 : decode cX11_carryOutStatement 59 = .ok (.getfield 22, 3) := by decide +kernel
theorem dX11_carryOutStatement_62 : decode cX11_carryOutStatement 62 = .ok (.iload_n 3, 1) := by decide +kernel
theorem dX11_carryOutStatement_63 : decode cX11_carryOutStatement 63 = .ok (.aaload, 1) := by decide +kernel
theorem dX11_carryOutStatement_64 : decode cX11_carryOutStatement 64 = .ok (.astore 5, 2) := by decide +kernel
theorem dX11_carryOutStatement_66 : decode cX11_carryOutStatement 66 = .ok (.aload_n 0, 1) := by decide +kernel
theorem dX11_carryOutStatement_67 : decode cX11_carryOutStatement 67 = .ok (.getfield 71, 3) := by decide +kernel
theorem dX11_carryOutStatement_70 : decode cX11_carryOutStatement 70 = .ok (.getfield 388, 3) := by decide +kernel
theorem dX11_carryOutStatement_73 : decode cX11_carryOutStatement 73 = .ok (.tableswitch 116 0 4 #[35, 59, 81, 90, 109], 35) := by decide +kernel
theorem dX11_carryOutStatement_108 : decode cX11_carryOutStatement 108 = .ok (.aload_n 0, 1) := by decide +kernel
theorem dX11_carryOutStatement_109 : decode cX11_carryOutStatement 109 = .ok (.getfield 65, 3) := by decide +kernel
theorem dX11_carryOutStatement_112 : decode cX11_carryOutStatement 112 = .ok (.aload_n 0, 1) := by decide +kernel
theorem dX11_carryOutStatement_113 : decode cX11_carryOutStatement 113 = .ok (.getfield 10, 3) := by decide +kernel
theorem dX11_carryOutStatement_116 : decode cX11_carryOutStatement 116 = .ok (.aload 4, 2) := by decide +kernel
theorem dX11_carryOutStatement_118 : decode cX11_carryOutStatement 118 = .ok (.aload 5, 2) := by decide +kernel
theorem dX11_carryOutStatement_120 : decode cX11_carryOutStatement 120 = .ok (.aload_n 0, 1) := by decide +kernel
theorem dX11_carryOutStatement_121 : decode cX11_carryOutStatement 121 = .ok (.getfield 71, 3) := by decide +kernel
theorem dX11_carryOutStatement_124 : decode cX11_carryOutStatement 124 = .ok (.getfield 391, 3) := by decide +kernel
theorem dX11_carryOutStatement_127 : decode cX11_carryOutStatement 127 = .ok (.invokevirtual 262, 3) := by decide +kernel
theorem dX11_carryOutStatement_130 : decode cX11_carryOutStatement 130 = .ok (.iconst 1, 1) := by decide +kernel
theorem dX11_carryOutStatement_131 : decode cX11_carryOutStatement 131 = .ok (.ireturn, 1) := by decide +kernel
theorem dX11_carryOutStatement_132 : decode cX11_carryOutStatement 132 = .ok (.aload_n 0, 1) := by decide +kernel
theorem dX11_carryOutStatement_133 : decode cX11_carryOutStatement 133 = .ok (.aload 4, 2) := by decide +kernel
theorem dX11_carryOutStatement_135 : decode cX11_carryOutStatement 135 = .ok (.aload_n 0, 1) := by decide +kernel
theorem dX11_carryOutStatement_136 : decode cX11_carryOutStatement 136 = .ok (.getfield 22, 3) := by decide +kernel
theorem dX11_carryOutStatement_139 : decode cX11_carryOutStatement 139 = .ok (.iload_n 2, 1) := by decide +kernel
theorem dX11_carryOutStatement_140 : decode cX11_carryOutStatement 140 = .ok (.aaload, 1) := by decide +kernel
theorem dX11_carryOutStatement_141 : decode cX11_carryOutStatement 141 = .ok (.aload 5, 2) := by decide +kernel
theorem dX11_carryOutStatement_143 : decode cX11_carryOutStatement 143 = .ok (.aload_n 0, 1) := by decide +kernel
theorem dX11_carryOutStatement_144 : decode cX11_carryOutStatement 144 = .ok (.getfield 71, 3) := by decide +kernel
theorem dX11_carryOutStatement_147 : decode cX11_carryOutStatement 147 = .ok (.getfield 394, 3) := by decide +kernel
theorem dX11_carryOutStatement_150 : decode cX11_carryOutStatement 150 = .ok (.invokevirtual 266, 3) := by decide +kernel
theorem dX11_carryOutStatement_153 : decode cX11_carryOutStatement 153 = .ok (.ireturn, 1) := by decide +kernel
theorem dX11_carryOutStatement_154 : decode cX11_carryOutStatement 154 = .ok (.aload 5, 2) := by decide +kernel
theorem dX11_carryOutStatement_156 : decode cX11_carryOutStatement 156 = .ok (.aload 4, 2) := by decide +kernel
theorem dX11_carryOutStatement_158 : decode cX11_carryOutStatement 158 = .ok (.invokevirtual 153, 3) := by decide +kernel
theorem dX11_carryOutStatement_161 : decode cX11_carryOutStatement 161 = .ok (.iconst 1, 1) := by decide +kernel
theorem dX11_carryOutStatement_162 : decode cX11_carryOutStatement 162 = .ok (.ireturn, 1) := by decide +kernel
theorem dX11_carryOutStatement_163 : decode cX11_carryOutStatement 163 = .ok (.aload 4, 2) := by decide +kernel
theorem dX11_carryOutStatement_165 : decode cX11_carryOutStatement 165 = .ok (.aload_n 0, 1) := by decide +kernel
theorem dX11_carryOutStatement_166 : decode cX11_carryOutStatement 166 = .ok (.getfield 10, 3) := by decide +kernel
theorem dX11_carryOutStatement_169 : decode cX11_carryOutStatement 169 = .ok (.aload_n 0, 1) := by decide +kernel
theorem dX11_carryOutStatement_170 : decode cX11_carryOutStatement 170 = .ok (.getfield 71, 3) := by decide +kernel
theorem dX11_carryOutStatement_173 : decode cX11_carryOutStatement 173 = .ok (.getfield 397, 3) := by decide +kernel
theorem dX11_carryOutStatement_176 : decode cX11_carryOutStatement 176 = .ok (.invokevirtual 272, 3) := by decide +kernel
theorem dX11_carryOutStatement_179 : decode cX11_carryOutStatement 179 = .ok (.pop, 1) := by decide +kernel
theorem dX11_carryOutStatement_180 : decode cX11_carryOutStatement 180 = .ok (.iconst 1, 1) := by decide +kernel
theorem dX11_carryOutStatement_181 : decode cX11_carryOutStatement 181 = .ok (.ireturn, 1) := by decide +kernel
theorem dX11_carryOutStatement_182 : decode cX11_carryOutStatement 182 = .ok (.aload 4, 2) := by decide +kernel
theorem dX11_carryOutStatement_184 : decode cX11_carryOutStatement 184 = .ok (.invokevirtual 157, 3) := by decide +kernel
theorem dX11_carryOutStatement_187 : decode cX11_carryOutStatement 187 = .ok (.iconst 1, 1) := by decide +kernel
theorem dX11_carryOutStatement_188 : decode cX11_carryOutStatement 188 = .ok (.ireturn, 1) := by decide +kernel
theorem dX11_carryOutStatement_189 : decode cX11_carryOutStatement 189 = .ok (.aload 4, 2) := by decide +kernel
theorem dX11_carryOutStatement_191 : decode cX11_carryOutStatement 191 = .ok (.invokevirtual 150, 3) := by decide +kernel
theorem dX11_carryOutStatement_194 : decode cX11_carryOutStatement 194 = .ok (.iconst 1, 1) := by decide +kernel
theorem dX11_carryOutStatement_195 : decode cX11_carryOutStatement 195 = .ok (.ireturn, 1) := by decide +kernel
theorem dX11_isTape_0 : decode cX11_isTape 0 = .ok (.iload_n 0, 1) := by decide +kernel
theorem dX11_isTape_1 : decode cX11_isTape 1 = .ok (.ifCond .lt 13, 3) := by decide +kernel
theorem dX11_isTape_4 : decode cX11_isTape 4 = .ok (.iload_n 0, 1) := by decide +kernel
theorem dX11_isTape_5 : decode cX11_isTape 5 = .ok (.bipush 8, 2) := by decide +kernel
theorem dX11_isTape_7 : decode cX11_isTape 7 = .ok (.if_icmp .ge 7, 3) := by decide +kernel
theorem dX11_isTape_10 : decode cX11_isTape 10 = .ok (.iconst 1, 1) := by decide +kernel
theorem dX11_isTape_11 : decode cX11_isTape 11 = .ok (.goto 4, 3) := by decide +kernel
theorem dX11_isTape_14 : decode cX11_isTape 14 = .ok (.iconst 0, 1) := by decide +kernel
theorem dX11_isTape_15 : decode cX11_isTape 15 = .ok (.ireturn, 1) := by decide +kernel
set_option maxRecDepth 20000 in
theorem ggX12_init_Jx4a65c_init_da8c8 : GoodIn wsX12_init wsJx4a65c_init_da8c8 := goodIn_r _ [16, 17, 18, 19, 20, 21, 22, 23, 24, 25, 26, 27, 28, 3, 4, 193, 194, 195] (by decide +kernel) (by decide +kernel)
set_option maxRecDepth 20000 in
theorem gX12_init_Jx4a65c_init_da8c8 : GoodIn wsX12_init (wsJx4a65c_init_da8c8) := ggX12_init_Jx4a65c_init_da8c8
set_option maxRecDepth 20000 in
theorem ggX12_init_X13_runsOf : GoodIn wsX12_init wsX13_runsOf := goodIn_r _ [32, 33, 8, 9, 34, 35, 36, 30, 37, 38, 39, 40, 41, 42, 43, 15, 16, 17, 18, 19, 20, 21, 22, 23, 24, 25, 26, 27, 28, 3, 4, 44, 45, 46, 47, 48, 49, 50, 51, 52, 53, 54, 55, 56, 57, 58, 59, 60, 61, 62, 63, 64, 65, 66, 67, 68, 69, 70, 71, 72, 73, 74, 75, 76, 77, 78, 79, 80, 81, 82, 83, 84, 85, 86, 87, 88, 89, 90, 91, 92, 93, 94, 95, 96, 97, 98, 99, 100, 101, 102, 103, 104, 105, 106, 107, 108, 109, 110, 111, 112, 113, 114, 115, 116, 117, 118, 119, 120, 121, 122, 123, 124, 125, 126, 127, 128, 129, 130, 131, 132, 133, 134, 135, 136, 137, 138, 139, 140, 141, 142, 143, 144, 145, 146, 147, 148, 149, 150, 151, 152, 153, 154, 155, 156, 157, 158, 159, 5, 160, 161, 162, 163, 164, 165, 166, 193, 194, 195, 196, 197, 198, 199, 200, 201, 202, 203, 204, 205, 206, 207, 208, 209, 210] (by decide +kernel) (by decide +kernel)
set_option maxRecDepth 20000 in
theorem gX12_init_X13_runsOf_n36 : GoodIn wsX12_init (wsX13_runsOf) := ggX12_init_X13_runsOf
set_option maxRecDepth 20000 in
theorem ggX12_init_X12_distribute : GoodIn wsX12_init wsX12_distribute := goodIn_r _ [171, 6, 5, 172, 7, 8, 9, 173, 10, 174, 175, 170, 176, 177, 120, 121, 122, 67, 14, 15, 16, 17, 18, 19, 20, 21, 22, 23, 24, 25, 26, 27, 28, 3, 4, 178, 112, 113, 114, 179, 124, 125, 126, 127, 128, 129, 130, 131, 132, 133, 134, 135, 136, 137, 138, 180, 62, 63, 64, 65, 66, 68, 69, 70, 71, 72, 73, 74, 75, 76, 77, 78, 79, 80, 81, 40, 82, 83, 84, 85, 86, 87, 88, 89, 90, 91, 92, 93, 94, 95, 96, 97, 98, 99, 100, 101, 102, 103, 104, 105, 106, 39, 41, 107, 108, 109, 110, 181, 182, 183, 184, 185, 186, 187, 188, 189, 190, 191, 192, 193, 194, 195] (by decide +kernel) (by decide +kernel)
set_option maxRecDepth 20000 in
theorem gX12_init_X12_distribute : GoodIn wsX12_init (wsV RX12 40 RX12 yX12_distribute wsX12_distribute) := goodIn_app (goodIn_of _ (by decide +kernel)) ggX12_init_X12_distribute
set_option maxRecDepth 20000 in
theorem ggX12_init_Jx4a65c_add_9ea2d : GoodIn wsX12_init wsJx4a65c_add_9ea2d := goodIn_r _ [64, 65, 66, 18, 67, 68, 69, 70, 9, 71, 72, 73, 74, 75, 76, 77, 78, 79, 17, 80, 81, 40, 82, 83, 84, 85, 86, 87, 88, 89, 90, 91, 92, 93, 94, 95, 96, 97, 98, 99, 100, 101, 102, 103, 104, 105, 106, 39, 41, 107, 108, 109, 110, 193, 194, 195] (by decide +kernel) (by decide +kernel)
set_option maxRecDepth 20000 in
theorem gX12_init_Jx4a65c_add_9ea2d_f44Jx4a65c : GoodIn wsX12_init (va_wsF RX12 44 RJx4a65c ⟨"java/util/List", "add", "(Ljava/lang/Object;)Z"⟩ yJx4a65c_add_9ea2d wsJx4a65c_add_9ea2d) := goodIn_app (goodIn_of _ (by decide +kernel)) ggX12_init_Jx4a65c_add_9ea2d
theorem dX12_init_0 : decode cX12_init 0 = .ok (.aload_n 0, 1) := by decide +kernel
theorem dX12_init_1 : decode cX12_init 1 = .ok (.aload_n 1, 1) := by decide +kernel
theorem dX12_init_2 : decode cX12_init 2 = .ok (.putfield 3, 3) := by decide +kernel
theorem dX12_init_5 : decode cX12_init 5 = .ok (.aload_n 0, 1) := by decide +kernel
theorem dX12_init_6 : decode cX12_init 6 = .ok (.invokespecial 9, 3) := by decide +kernel
theorem dX12_init_9 : decode cX12_init 9 = .ok (.aload_n 0, 1) := by decide +kernel
theorem dX12_init_10 : decode cX12_init 10 = .ok (.iconst 5, 1) := by decide +kernel
theorem dX12_init_11 : decode cX12_init 11 = .ok (.newarray .int, 2) := by decide +kernel
theorem dX12_init_13 : decode cX12_init 13 = .ok (.putfield 15, 3) := by decide +kernel
theorem dX12_init_16 : decode cX12_init 16 = .ok (.aload_n 0, 1) := by decide +kernel
theorem dX12_init_17 : decode cX12_init 17 = .ok (.new 19, 3) := by decide +kernel
theorem dX12_init_20 : decode cX12_init 20 = .ok (.dup, 1) := by decide +kernel
theorem dX12_init_21 : decode cX12_init 21 = .ok (.invokespecial 21, 3) := by decide +kernel
theorem dX12_init_24 : decode cX12_init 24 = .ok (.putfield 22, 3) := by decide +kernel
theorem dX12_init_27 : decode cX12_init 27 = .ok (.aload_n 0, 1) := by decide +kernel
theorem dX12_init_28 : decode cX12_init 28 = .ok (.new 19, 3) := by decide +kernel
theorem dX12_init_31 : decode cX12_init 31 = .ok (.dup, 1) := by decide +kernel
theorem dX12_init_32 : decode cX12_init 32 = .ok (.invokespecial 21, 3) := by decide +kernel
theorem dX12_init_35 : decode cX12_init 35 = .ok (.putfield 26, 3) := by decide +kernel
theorem dX12_init_38 : decode cX12_init 38 = .ok (.iconst 0, 1) := by decide +kernel
theorem dX12_init_39 : decode cX12_init 39 = .ok (.istore 5, 2) := by decide +kernel
theorem dX12_init_41 : decode cX12_init 41 = .ok (.iload 5, 2) := by decide +kernel
theorem dX12_init_43 : decode cX12_init 43 = .ok (.iconst 5, 1) := by decide +kernel
theorem dX12_init_44 : decode cX12_init 44 = .ok (.if_icmp .ge 21, 3) := by decide +kernel
theorem dX12_init_47 : decode cX12_init 47 = .ok (.aload_n 0, 1) := by decide +kernel
theorem dX12_init_48 : decode cX12_init 48 = .ok (.getfield 15, 3) := by decide +kernel
theorem dX12_init_51 : decode cX12_init 51 = .ok (.iload 5, 2) := by decide +kernel
theorem dX12_init_53 : decode cX12_init 53 = .ok (.aload 4, 2) := by decide +kernel
theorem dX12_init_55 : decode cX12_init 55 = .ok (.iload 5, 2) := by decide +kernel
theorem dX12_init_57 : decode cX12_init 57 = .ok (.iaload, 1) := by decide +kernel
theorem dX12_init_58 : decode cX12_init 58 = .ok (.iastore, 1) := by decide +kernel
theorem dX12_init_59 : decode cX12_init 59 = .ok (.iinc 5 1, 3) := by decide +kernel
theorem dX12_init_62 : decode cX12_init 62 = .ok (.goto (-21), 3) := by decide +kernel
theorem dX12_init_65 : decode cX12_init 65 = .ok (.aload_n 0, 1) := by decide +kernel
theorem dX12_init_66 : decode cX12_init 66 = .ok (.iload_n 3, 1) := by decide +kernel
theorem dX12_init_67 : decode cX12_init 67 = .ok (.putfield 29, 3) := by decide +kernel
theorem dX12_init_70 : decode cX12_init 70 = .ok (.aload_n 0, 1) := by decide +kernel
theorem dX12_init_71 : decode cX12_init 71 = .ok (.aload_n 2, 1) := by decide +kernel
theorem dX12_init_72 : decode cX12_init 72 = .ok (.arraylength, 1) := by decide +kernel
theorem dX12_init_73 : decode cX12_init 73 = .ok (.putfield 33, 3) := by decide +kernel
theorem dX12_init_76 : decode cX12_init 76 = .ok (.aload_n 1, 1) := by decide +kernel
theorem dX12_init_77 : decode cX12_init 77 = .ok (.aload_n 2, 1) := by decide +kernel
theorem dX12_init_78 : decode cX12_init 78 = .ok (.aload_n 0, 1) := by decide +kernel
theorem dX12_init_79 : decode cX12_init 79 = .ok (.getfield 15, 3) := by decide +kernel
theorem dX12_init_82 : decode cX12_init 82 = .ok (.invokevirtual 36, 3) := by decide +kernel
theorem dX12_init_85 : decode cX12_init 85 = .ok (.astore 5, 2) := by decide +kernel
theorem dX12_init_87 : decode cX12_init 87 = .ok (.aload_n 0, 1) := by decide +kernel
theorem dX12_init_88 : decode cX12_init 88 = .ok (.getfield 15, 3) := by decide +kernel
theorem dX12_init_91 : decode cX12_init 91 = .ok (.iconst 3, 1) := by decide +kernel
theorem dX12_init_92 : decode cX12_init 92 = .ok (.iaload, 1) := by decide +kernel
theorem dX12_init_93 : decode cX12_init 93 = .ok (.iconst 2, 1) := by decide +kernel
theorem dX12_init_94 : decode cX12_init 94 = .ok (.if_icmp .ne 12, 3) := by decide +kernel
theorem dX12_init_97 : decode cX12_init 97 = .ok (.aload_n 0, 1) := by decide +kernel
theorem dX12_init_98 : decode cX12_init 98 = .ok (.aload 5, 2) := by decide +kernel
theorem dX12_init_100 : decode cX12_init 100 = .ok (.invokevirtual 40, 3) := by decide +kernel
theorem dX12_init_103 : decode cX12_init 103 = .ok (.goto 15, 3) := by decide +kernel
theorem dX12_init_106 : decode cX12_init 106 = .ok (.aload_n 0, 1) := by decide +kernel
theorem dX12_init_107 : decode cX12_init 107 = .ok (.getfield 22, 3) := by decide +kernel
theorem dX12_init_110 : decode cX12_init 110 = .ok (.aload 5, 2) := by decide +kernel
theorem dX12_init_112 : decode cX12_init 112 = .ok (.invokeinterface 44 2, 5) := by decide +kernel
theorem dX12_init_117 : decode cX12_init 117 = .ok (.pop, 1) := by decide +kernel
theorem dX12_init_118 : decode cX12_init 118 = .ok (.return_, 1) := by decide +kernel
set_option maxRecDepth 20000 in
theorem ggX12_distribute_X12_sum : GoodIn wsX12_distribute wsX12_sum := goodIn_r _ [12] (by decide +kernel) (by decide +kernel)
set_option maxRecDepth 20000 in
theorem gX12_distribute_X12_sum : GoodIn wsX12_distribute (va_wsS RX12 50 yX12_sum wsX12_sum) := goodIn_app (goodIn_of _ (by decide +kernel)) ggX12_distribute_X12_sum
set_option maxRecDepth 20000 in
theorem ggX12_distribute_Jx4a65c_size_8abf5 : GoodIn wsX12_distribute wsJx4a65c_size_8abf5 := goodIn_r _ [16, 17, 119, 120, 121] (by decide +kernel) (by decide +kernel)
set_option maxRecDepth 20000 in
theorem gX12_distribute_Jx4a65c_size_8abf5_f54Jx4a65c : GoodIn wsX12_distribute (va_wsF RX12 54 RJx4a65c ⟨"java/util/List", "size", "()I"⟩ yJx4a65c_size_8abf5 wsJx4a65c_size_8abf5) := goodIn_app (goodIn_of _ (by decide +kernel)) ggX12_distribute_Jx4a65c_size_8abf5
set_option maxRecDepth 20000 in
theorem ggX12_distribute_Jx4a65c_init_da8c8 : GoodIn wsX12_distribute wsJx4a65c_init_da8c8 := goodIn_r _ [20, 21, 22, 23, 24, 25, 26, 27, 28, 29, 30, 31, 32, 33, 34, 119, 120, 121] (by decide +kernel) (by decide +kernel)
set_option maxRecDepth 20000 in
theorem gX12_distribute_Jx4a65c_init_da8c8 : GoodIn wsX12_distribute (wsJx4a65c_init_da8c8) := ggX12_distribute_Jx4a65c_init_da8c8
set_option maxRecDepth 20000 in
theorem ggX12_distribute_Jx4a65c_isEmpty_aae02 : GoodIn wsX12_distribute wsJx4a65c_isEmpty_aae02 := goodIn_r _ [38, 17, 119, 120, 121] (by decide +kernel) (by decide +kernel)
set_option maxRecDepth 20000 in
theorem gX12_distribute_Jx4a65c_isEmpty_aae02_f61Jx4a65c : GoodIn wsX12_distribute (va_wsF RX12 61 RJx4a65c ⟨"java/util/List", "isEmpty", "()Z"⟩ yJx4a65c_isEmpty_aae02 wsJx4a65c_isEmpty_aae02) := goodIn_app (goodIn_of _ (by decide +kernel)) ggX12_distribute_Jx4a65c_isEmpty_aae02
set_option maxRecDepth 20000 in
theorem ggX12_distribute_Jx4a65c_get_915e3 : GoodIn wsX12_distribute wsJx4a65c_get_915e3 := goodIn_r _ [42, 17, 43, 44, 45, 46, 47, 48, 49, 50, 51, 52, 53, 6, 54, 22, 119, 120, 121] (by decide +kernel) (by decide +kernel)
set_option maxRecDepth 20000 in
theorem gX12_distribute_Jx4a65c_get_915e3_f65Jx4a65c : GoodIn wsX12_distribute (va_wsF RX12 65 RJx4a65c ⟨"java/util/List", "get", "(I)Ljava/lang/Object;"⟩ yJx4a65c_get_915e3 wsJx4a65c_get_915e3) := goodIn_app (goodIn_of _ (by decide +kernel)) ggX12_distribute_Jx4a65c_get_915e3
set_option maxRecDepth 20000 in
theorem ggX12_distribute_Jx4a65c_add_9ea2d : GoodIn wsX12_distribute wsJx4a65c_add_9ea2d := goodIn_r _ [58, 59, 60, 22, 17, 61, 62, 63, 6, 64, 65, 66, 67, 68, 69, 70, 71, 72, 21, 73, 74, 75, 76, 77, 78, 79, 80, 81, 82, 83, 84, 85, 86, 87, 88, 89, 90, 91, 92, 93, 94, 95, 96, 97, 98, 99, 100, 101, 102, 103, 104, 105, 106, 119, 120, 121] (by decide +kernel) (by decide +kernel)
set_option maxRecDepth 20000 in
theorem gX12_distribute_Jx4a65c_add_9ea2d_f44Jx4a65c : GoodIn wsX12_distribute (va_wsF RX12 44 RJx4a65c ⟨"java/util/List", "add", "(Ljava/lang/Object;)Z"⟩ yJx4a65c_add_9ea2d wsJx4a65c_add_9ea2d) := goodIn_app (goodIn_of _ (by decide +kernel)) ggX12_distribute_Jx4a65c_add_9ea2d
theorem dX12_distribute_0 : decode cX12_distribute 0 = .ok (.aload_n 0, 1) := by decide +kernel
theorem dX12_distribute_1 : decode cX12_distribute 1 = .ok (.getfield 15, 3) := by decide +kernel
theorem dX12_distribute_4 : decode cX12_distribute 4 = .ok (.iconst 4, 1) := by decide +kernel
theorem dX12_distribute_5 : decode cX12_distribute 5 = .ok (.iaload, 1) := by decide +kernel
theorem dX12_distribute_6 : decode cX12_distribute 6 = .ok (.istore_n 2, 1) := by decide +kernel
theorem dX12_distribute_7 : decode cX12_distribute 7 = .ok (.iload_n 2, 1) := by decide +kernel
theorem dX12_distribute_8 : decode cX12_distribute 8 = .ok (.newarray .int, 2) := by decide +kernel
theorem dX12_distribute_10 : decode cX12_distribute 10 = .ok (.astore_n 3, 1) := by decide +kernel
theorem dX12_distribute_11 : decode cX12_distribute 11 = .ok (.aload_n 3, 1) := by decide +kernel
theorem dX12_distribute_12 : decode cX12_distribute 12 = .ok (.iconst 0, 1) := by decide +kernel
theorem dX12_distribute_13 : decode cX12_distribute 13 = .ok (.iconst 1, 1) := by decide +kernel
theorem dX12_distribute_14 : decode cX12_distribute 14 = .ok (.iastore, 1) := by decide +kernel
theorem dX12_distribute_15 : decode cX12_distribute 15 = .ok (.aload_n 3, 1) := by decide +kernel
theorem dX12_distribute_16 : decode cX12_distribute 16 = .ok (.invokestatic 50, 3) := by decide +kernel
theorem dX12_distribute_19 : decode cX12_distribute 19 = .ok (.aload_n 1, 1) := by decide +kernel
theorem dX12_distribute_20 : decode cX12_distribute 20 = .ok (.invokeinterface 54 1, 5) := by decide +kernel
theorem dX12_distribute_25 : decode cX12_distribute 25 = .ok (.if_icmp .ge 66, 3) := by decide +kernel
theorem dX12_distribute_28 : decode cX12_distribute 28 = .ok (.iload_n 2, 1) := by decide +kernel
theorem dX12_distribute_29 : decode cX12_distribute 29 = .ok (.newarray .int, 2) := by decide +kernel
theorem dX12_distribute_31 : decode cX12_distribute 31 = .ok (.astore 4, 2) := by decide +kernel
theorem dX12_distribute_33 : decode cX12_distribute 33 = .ok (.iconst 0, 1) := by decide +kernel
theorem dX12_distribute_34 : decode cX12_distribute 34 = .ok (.istore 5, 2) := by decide +kernel
theorem dX12_distribute_36 : decode cX12_distribute 36 = .ok (.iload 5, 2) := by decide +kernel
theorem dX12_distribute_38 : decode cX12_distribute 38 = .ok (.iload_n 2, 1) := by decide +kernel
theorem dX12_distribute_39 : decode cX12_distribute 39 = .ok (.if_icmp .ge 36, 3) := by decide +kernel
theorem dX12_distribute_42 : decode cX12_distribute 42 = .ok (.aload 4, 2) := by decide +kernel
theorem dX12_distribute_44 : decode cX12_distribute 44 = .ok (.iload 5, 2) := by decide +kernel
theorem dX12_distribute_46 : decode cX12_distribute 46 = .ok (.aload_n 3, 1) := by decide +kernel
theorem dX12_distribute_47 : decode cX12_distribute 47 = .ok (.iconst 0, 1) := by decide +kernel
theorem dX12_distribute_48 : decode cX12_distribute 48 = .ok (.iaload, 1) := by decide +kernel
theorem dX12_distribute_49 : decode cX12_distribute 49 = .ok (.iload 5, 2) := by decide +kernel
theorem dX12_distribute_51 : decode cX12_distribute 51 = .ok (.iconst 1, 1) := by decide +kernel
theorem dX12_distribute_52 : decode cX12_distribute 52 = .ok (.iadd, 1) := by decide +kernel
theorem dX12_distribute_53 : decode cX12_distribute 53 = .ok (.iload_n 2, 1) := by decide +kernel
theorem dX12_distribute_54 : decode cX12_distribute 54 = .ok (.if_icmp .ge 12, 3) := by decide +kernel
theorem dX12_distribute_57 : decode cX12_distribute 57 = .ok (.aload_n 3, 1) := by decide +kernel
theorem dX12_distribute_58 : decode cX12_distribute 58 = .ok (.iload 5, 2) := by decide +kernel
theorem dX12_distribute_60 : decode cX12_distribute 60 = .ok (.iconst 1, 1) := by decide +kernel
theorem dX12_distribute_61 : decode cX12_distribute 61 = .ok (.iadd, 1) := by decide +kernel
theorem dX12_distribute_62 : decode cX12_distribute 62 = .ok (.iaload, 1) := by decide +kernel
theorem dX12_distribute_63 : decode cX12_distribute 63 = .ok (.goto 4, 3) := by decide +kernel
theorem dX12_distribute_66 : decode cX12_distribute 66 = .ok (.iconst 0, 1) := by decide +kernel
theorem dX12_distribute_67 : decode cX12_distribute 67 = .ok (.iadd, 1) := by decide +kernel
theorem dX12_distribute_68 : decode cX12_distribute 68 = .ok (.iastore, 1) := by decide +kernel
theorem dX12_distribute_69 : decode cX12_distribute 69 = .ok (.iinc 5 1, 3) := by decide +kernel
theorem dX12_distribute_72 : decode cX12_distribute 72 = .ok (.goto (-36), 3) := by decide +kernel
theorem dX12_distribute_75 : decode cX12_distribute 75 = .ok (.aload 4, 2) := by decide +kernel
theorem dX12_distribute_77 : decode cX12_distribute 77 = .ok (.astore_n 3, 1) := by decide +kernel
theorem dX12_distribute_78 : decode cX12_distribute 78 = .ok (.aload_n 0, 1) := by decide +kernel
theorem dX12_distribute_79 : decode cX12_distribute 79 = .ok (.dup, 1) := by decide +kernel
theorem dX12_distribute_80 : decode cX12_distribute 80 = .ok (.getfield 58, 3) := by decide +kernel
theorem dX12_distribute_83 : decode cX12_distribute 83 = .ok (.iconst 1, 1) := by decide +kernel
theorem dX12_distribute_84 : decode cX12_distribute 84 = .ok (.iadd, 1) := by decide +kernel
theorem dX12_distribute_85 : decode cX12_distribute 85 = .ok (.putfield 58, 3) := by decide +kernel
theorem dX12_distribute_88 : decode cX12_distribute 88 = .ok (.goto (-73), 3) := by decide +kernel
theorem dX12_distribute_91 : decode cX12_distribute 91 = .ok (.iconst 0, 1) := by decide +kernel
theorem dX12_distribute_92 : decode cX12_distribute 92 = .ok (.istore 4, 2) := by decide +kernel
theorem dX12_distribute_94 : decode cX12_distribute 94 = .ok (.iconst 0, 1) := by decide +kernel
theorem dX12_distribute_95 : decode cX12_distribute 95 = .ok (.istore 5, 2) := by decide +kernel
theorem dX12_distribute_97 : decode cX12_distribute 97 = .ok (.iload 5, 2) := by decide +kernel
theorem dX12_distribute_99 : decode cX12_distribute 99 = .ok (.iload_n 2, 1) := by decide +kernel
theorem dX12_distribute_100 : decode cX12_distribute 100 = .ok (.if_icmp .ge 96, 3) := by decide +kernel
theorem dX12_distribute_103 : decode cX12_distribute 103 = .ok (.new 19, 3) := by decide +kernel
theorem dX12_distribute_106 : decode cX12_distribute 106 = .ok (.dup, 1) := by decide +kernel
theorem dX12_distribute_107 : decode cX12_distribute 107 = .ok (.invokespecial 21, 3) := by decide +kernel
theorem dX12_distribute_110 : decode cX12_distribute 110 = .ok (.astore 6, 2) := by decide +kernel
theorem dX12_distribute_112 : decode cX12_distribute 112 = .ok (.iconst 0, 1) := by decide +kernel
theorem dX12_distribute_113 : decode cX12_distribute 113 = .ok (.istore 7, 2) := by decide +kernel
theorem dX12_distribute_115 : decode cX12_distribute 115 = .ok (.iload 7, 2) := by decide +kernel
theorem dX12_distribute_117 : decode cX12_distribute 117 = .ok (.aload_n 3, 1) := by decide +kernel
theorem dX12_distribute_118 : decode cX12_distribute 118 = .ok (.iload 5, 2) := by decide +kernel
theorem dX12_distribute_120 : decode cX12_distribute 120 = .ok (.iaload, 1) := by decide +kernel
theorem dX12_distribute_121 : decode cX12_distribute 121 = .ok (.if_icmp .ge 57, 3) := by decide +kernel
theorem dX12_distribute_124 : decode cX12_distribute 124 = .ok (.aload_n 1, 1) := by decide +kernel
theorem dX12_distribute_125 : decode cX12_distribute 125 = .ok (.invokeinterface 61 1, 5) := by decide +kernel
theorem dX12_distribute_130 : decode cX12_distribute 130 = .ok (.ifCond .ne 48, 3) := by decide +kernel
theorem dX12_distribute_133 : decode cX12_distribute 133 = .ok (.aload 6, 2) := by decide +kernel
theorem dX12_distribute_135 : decode cX12_distribute 135 = .ok (.iload 4, 2) := by decide +kernel
theorem dX12_distribute_137 : decode cX12_distribute 137 = .ok (.aload_n 1, 1) := by decide +kernel
theorem dX12_distribute_138 : decode cX12_distribute 138 = .ok (.invokeinterface 54 1, 5) := by decide +kernel
theorem dX12_distribute_143 : decode cX12_distribute 143 = .ok (.if_icmp .ge 17, 3) := by decide +kernel
theorem dX12_distribute_146 : decode cX12_distribute 146 = .ok (.aload_n 1, 1) := by decide +kernel
theorem dX12_distribute_147 : decode cX12_distribute 147 = .ok (.iload 4, 2) := by decide +kernel
theorem dX12_distribute_149 : decode cX12_distribute 149 = .ok (.invokeinterface 65 2, 5) := by decide +kernel
theorem dX12_distribute_154 : decode cX12_distribute 154 = .ok (.checkcast 69, 3) := by decide +kernel
theorem dX12_distribute_157 : decode cX12_distribute 157 = .ok (.goto 6, 3) := by decide +kernel
theorem dX12_distribute_160 : decode cX12_distribute 160 = .ok (.iconst 0, 1) := by decide +kernel
theorem dX12_distribute_161 : decode cX12_distribute 161 = .ok (.newarray .int, 2) := by decide +kernel
theorem dX12_distribute_163 : decode cX12_distribute 163 = .ok (.invokeinterface 44 2, 5) := by decide +kernel
theorem dX12_distribute_168 : decode cX12_distribute 168 = .ok (.pop, 1) := by decide +kernel
theorem dX12_distribute_169 : decode cX12_distribute 169 = .ok (.iinc 4 1, 3) := by decide +kernel
theorem dX12_distribute_172 : decode cX12_distribute 172 = .ok (.iinc 7 1, 3) := by decide +kernel
theorem dX12_distribute_175 : decode cX12_distribute 175 = .ok (.goto (-60), 3) := by decide +kernel
theorem dX12_distribute_178 : decode cX12_distribute 178 = .ok (.aload_n 0, 1) := by decide +kernel
theorem dX12_distribute_179 : decode cX12_distribute 179 = .ok (.getfield 22, 3) := by decide +kernel
theorem dX12_distribute_182 : decode cX12_distribute 182 = .ok (.aload 6, 2) := by decide +kernel
theorem dX12_distribute_184 : decode cX12_distribute 184 = .ok (.invokeinterface 44 2, 5) := by decide +kernel
theorem dX12_distribute_189 : decode cX12_distribute 189 = .ok (.pop, 1) := by decide +kernel
theorem dX12_distribute_190 : decode cX12_distribute 190 = .ok (.iinc 5 1, 3) := by decide +kernel
theorem dX12_distribute_193 : decode cX12_distribute 193 = .ok (.goto (-96), 3) := by decide +kernel
theorem dX12_distribute_196 : decode cX12_distribute 196 = .ok (.return_, 1) := by decide +kernel
theorem dX12_sum_0 : decode cX12_sum 0 = .ok (.iconst 0, 1) := by decide +kernel
theorem dX12_sum_1 : decode cX12_sum 1 = .ok (.istore_n 1, 1) := by decide +kernel
theorem dX12_sum_2 : decode cX12_sum 2 = .ok (.iconst 0, 1) := by decide +kernel
theorem dX12_sum_3 : decode cX12_sum 3 = .ok (.istore_n 2, 1) := by decide +kernel
theorem dX12_sum_4 : decode cX12_sum 4 = .ok (.iload_n 2, 1) := by decide +kernel
theorem dX12_sum_5 : decode cX12_sum 5 = .ok (.aload_n 0, 1) := by decide +kernel
theorem dX12_sum_6 : decode cX12_sum 6 = .ok (.arraylength, 1) := by decide +kernel
theorem dX12_sum_7 : decode cX12_sum 7 = .ok (.if_icmp .ge 15, 3) := by decide +kernel
theorem dX12_sum_10 : decode cX12_sum 10 = .ok (.iload_n 1, 1) := by decide +kernel
theorem dX12_sum_11 : decode cX12_sum 11 = .ok (.aload_n 0, 1) := by decide +kernel
theorem dX12_sum_12 : decode cX12_sum 12 = .ok (.iload_n 2, 1) := by decide +kernel
theorem dX12_sum_13 : decode cX12_sum 13 = .ok (.iaload, 1) := by decide +kernel
theorem dX12_sum_14 : decode cX12_sum 14 = .ok (.iadd, 1) := by decide +kernel
theorem dX12_sum_15 : decode cX12_sum 15 = .ok (.istore_n 1, 1) := by decide +kernel
theorem dX12_sum_16 : decode cX12_sum 16 = .ok (.iinc 2 1, 3) := by decide +kernel
theorem dX12_sum_19 : decode cX12_sum 19 = .ok (.goto (-15), 3) := by decide +kernel
theorem dX12_sum_22 : decode cX12_sum 22 = .ok (.iload_n 1, 1) := by decide +kernel
theorem dX12_sum_23 : decode cX12_sum 23 = .ok (.ireturn, 1) := by decide +kernel
set_option maxRecDepth 20000 in
theorem ggX12_atBegin_Jx4a65c_size_8abf5 : GoodIn wsX12_atBegin wsJx4a65c_size_8abf5 := goodIn_r _ [7, 8, 38, 39, 40] (by decide +kernel) (by decide +kernel)
set_option maxRecDepth 20000 in
theorem gX12_atBegin_Jx4a65c_size_8abf5_f54Jx4a65c : GoodIn wsX12_atBegin (va_wsF RX12 54 RJx4a65c ⟨"java/util/List", "size", "()I"⟩ yJx4a65c_size_8abf5 wsJx4a65c_size_8abf5) := goodIn_app (goodIn_of _ (by decide +kernel)) ggX12_atBegin_Jx4a65c_size_8abf5
set_option maxRecDepth 20000 in
theorem ggX12_atBegin_Jx4a65c_get_915e3 : GoodIn wsX12_atBegin wsJx4a65c_get_915e3 := goodIn_r _ [12, 8, 13, 14, 15, 16, 17, 18, 19, 20, 21, 22, 23, 6, 24, 25, 38, 39, 40] (by decide +kernel) (by decide +kernel)
set_option maxRecDepth 20000 in
theorem gX12_atBegin_Jx4a65c_get_915e3_f65Jx4a65c : GoodIn wsX12_atBegin (va_wsF RX12 65 RJx4a65c ⟨"java/util/List", "get", "(I)Ljava/lang/Object;"⟩ yJx4a65c_get_915e3 wsJx4a65c_get_915e3) := goodIn_app (goodIn_of _ (by decide +kernel)) ggX12_atBegin_Jx4a65c_get_915e3
theorem dX12_atBegin_0 : decode cX12_atBegin 0 = .ok (.iconst 0, 1) := by decide +kernel
theorem dX12_atBegin_1 : decode cX12_atBegin 1 = .ok (.istore_n 1, 1) := by decide +kernel
theorem dX12_atBegin_2 : decode cX12_atBegin 2 = .ok (.iconst 0, 1) := by decide +kernel
theorem dX12_atBegin_3 : decode cX12_atBegin 3 = .ok (.istore_n 2, 1) := by decide +kernel
theorem dX12_atBegin_4 : decode cX12_atBegin 4 = .ok (.iload_n 2, 1) := by decide +kernel
theorem dX12_atBegin_5 : decode cX12_atBegin 5 = .ok (.aload_n 0, 1) := by decide +kernel
theorem dX12_atBegin_6 : decode cX12_atBegin 6 = .ok (.getfield 22, 3) := by decide +kernel
theorem dX12_atBegin_9 : decode cX12_atBegin 9 = .ok (.invokeinterface 54 1, 5) := by decide +kernel
theorem dX12_atBegin_14 : decode cX12_atBegin 14 = .ok (.if_icmp .ge 30, 3) := by decide +kernel
theorem dX12_atBegin_17 : decode cX12_atBegin 17 = .ok (.iload_n 1, 1) := by decide +kernel
theorem dX12_atBegin_18 : decode cX12_atBegin 18 = .ok (.aload_n 0, 1) := by decide +kernel
theorem dX12_atBegin_19 : decode cX12_atBegin 19 = .ok (.getfield 22, 3) := by decide +kernel
theorem dX12_atBegin_22 : decode cX12_atBegin 22 = .ok (.iload_n 2, 1) := by decide +kernel
theorem dX12_atBegin_23 : decode cX12_atBegin 23 = .ok (.invokeinterface 65 2, 5) := by decide +kernel
theorem dX12_atBegin_28 : decode cX12_atBegin 28 = .ok (.checkcast 45, 3) := by decide +kernel
theorem dX12_atBegin_31 : decode cX12_atBegin 31 = .ok (.invokeinterface 54 1, 5) := by decide +kernel
theorem dX12_atBegin_36 : decode cX12_atBegin 36 = .ok (.iadd, 1) := by decide +kernel
theorem dX12_atBegin_37 : decode cX12_atBegin 37 = .ok (.istore_n 1, 1) := by decide +kernel
theorem dX12_atBegin_38 : decode cX12_atBegin 38 = .ok (.iinc 2 1, 3) := by decide +kernel
theorem dX12_atBegin_41 : decode cX12_atBegin 41 = .ok (.goto (-37), 3) := by decide +kernel
theorem dX12_atBegin_44 : decode cX12_atBegin 44 = .ok (.iload_n 1, 1) := by decide +kernel
theorem dX12_atBegin_45 : decode cX12_atBegin 45 = .ok (.ireturn, 1) := by decide +kernel
set_option maxRecDepth 20000 in
theorem ggX12_isOver_X12_atBegin : GoodIn wsX12_isOver wsX12_atBegin := goodIn_r _ [5, 6, 7, 8, 9, 10, 11, 12, 13, 14, 15, 16, 17, 18, 19, 20, 21, 22, 23, 24, 25, 26, 27, 28, 29, 30, 31, 32, 33, 34, 35, 36, 37, 38, 39, 40, 41, 42, 43, 44, 45] (by decide +kernel) (by decide +kernel)
set_option maxRecDepth 20000 in
theorem gX12_isOver_X12_atBegin : GoodIn wsX12_isOver (wsV RX12 70 RX12 yX12_atBegin wsX12_atBegin) := goodIn_app (goodIn_of _ (by decide +kernel)) ggX12_isOver_X12_atBegin
theorem dX12_isOver_0 : decode cX12_isOver 0 = .ok (.aload_n 0, 1) := by decide +kernel
theorem dX12_isOver_1 : decode cX12_isOver 1 = .ok (.invokevirtual 70, 3) := by decide +kernel
theorem dX12_isOver_4 : decode cX12_isOver 4 = .ok (.iconst 1, 1) := by decide +kernel
theorem dX12_isOver_5 : decode cX12_isOver 5 = .ok (.if_icmp .gt 7, 3) := by decide +kernel
theorem dX12_isOver_8 : decode cX12_isOver 8 = .ok (.iconst 1, 1) := by decide +kernel
theorem dX12_isOver_9 : decode cX12_isOver 9 = .ok (.goto 4, 3) := by decide +kernel
theorem dX12_isOver_12 : decode cX12_isOver 12 = .ok (.iconst 0, 1) := by decide +kernel
theorem dX12_isOver_13 : decode cX12_isOver 13 = .ok (.ireturn, 1) := by decide +kernel
set_option maxRecDepth 20000 in
theorem ggX12_taken_Jx4a65c_init_da8c8 : GoodIn wsX12_taken wsJx4a65c_init_da8c8 := goodIn_r _ [18, 19, 20, 21, 22, 23, 24, 25, 26, 27, 28, 29, 30, 31, 32, 105, 106, 107] (by decide +kernel) (by decide +kernel)
set_option maxRecDepth 20000 in
theorem gX12_taken_Jx4a65c_init_da8c8 : GoodIn wsX12_taken (wsJx4a65c_init_da8c8) := ggX12_taken_Jx4a65c_init_da8c8
set_option maxRecDepth 20000 in
theorem ggX12_taken_Jx4a65c_size_8abf5 : GoodIn wsX12_taken wsJx4a65c_size_8abf5 := goodIn_r _ [36, 37, 105, 106, 107] (by decide +kernel) (by decide +kernel)
set_option maxRecDepth 20000 in
theorem gX12_taken_Jx4a65c_size_8abf5_f54Jx4a65c : GoodIn wsX12_taken (va_wsF RX12 54 RJx4a65c ⟨"java/util/List", "size", "()I"⟩ yJx4a65c_size_8abf5 wsJx4a65c_size_8abf5) := goodIn_app (goodIn_of _ (by decide +kernel)) ggX12_taken_Jx4a65c_size_8abf5
set_option maxRecDepth 20000 in
theorem ggX12_taken_Jx4a65c_get_915e3 : GoodIn wsX12_taken wsJx4a65c_get_915e3 := goodIn_r _ [41, 37, 42, 43, 44, 45, 46, 47, 48, 49, 50, 51, 52, 3, 53, 20, 105, 106, 107] (by decide +kernel) (by decide +kernel)
set_option maxRecDepth 20000 in
theorem gX12_taken_Jx4a65c_get_915e3_f65Jx4a65c : GoodIn wsX12_taken (va_wsF RX12 65 RJx4a65c ⟨"java/util/List", "get", "(I)Ljava/lang/Object;"⟩ yJx4a65c_get_915e3 wsJx4a65c_get_915e3) := goodIn_app (goodIn_of _ (by decide +kernel)) ggX12_taken_Jx4a65c_get_915e3
set_option maxRecDepth 20000 in
theorem ggX12_taken_Jx4a65c_add_9ea2d : GoodIn wsX12_taken wsJx4a65c_add_9ea2d := goodIn_r _ [57, 58, 59, 20, 37, 60, 61, 62, 3, 63, 64, 65, 66, 67, 68, 69, 70, 71, 19, 72, 14, 11, 15, 73, 74, 75, 76, 77, 78, 79, 80, 81, 82, 83, 84, 85, 86, 87, 88, 89, 90, 91, 92, 93, 94, 95, 96, 10, 12, 97, 98, 99, 100, 105, 106, 107] (by decide +kernel) (by decide +kernel)
set_option maxRecDepth 20000 in
theorem gX12_taken_Jx4a65c_add_9ea2d_f44Jx4a65c : GoodIn wsX12_taken (va_wsF RX12 44 RJx4a65c ⟨"java/util/List", "add", "(Ljava/lang/Object;)Z"⟩ yJx4a65c_add_9ea2d wsJx4a65c_add_9ea2d) := goodIn_app (goodIn_of _ (by decide +kernel)) ggX12_taken_Jx4a65c_add_9ea2d
set_option maxRecDepth 20000 in
theorem ggX12_taken_X12_shortest : GoodIn wsX12_taken wsX12_shortest := goodIn_r _ [104, 8, 33, 34, 35, 3, 36, 37, 38, 39, 40, 41, 42, 43, 44, 45, 46, 47, 48, 49, 50, 51, 52, 53, 20, 105, 106, 107] (by decide +kernel) (by decide +kernel)
set_option maxRecDepth 20000 in
theorem gX12_taken_X12_shortest : GoodIn wsX12_taken (va_wsS RX12 79 yX12_shortest wsX12_shortest) := goodIn_app (goodIn_of _ (by decide +kernel)) ggX12_taken_X12_shortest
theorem dX12_taken_0 : decode cX12_taken 0 = .ok (.new 19, 3) := by decide +kernel
theorem dX12_taken_3 : decode cX12_taken 3 = .ok (.dup, 1) := by decide +kernel
theorem dX12_taken_4 : decode cX12_taken 4 = .ok (.invokespecial 21, 3) := by decide +kernel
theorem dX12_taken_7 : decode cX12_taken 7 = .ok (.astore_n 1, 1) := by decide +kernel
theorem dX12_taken_8 : decode cX12_taken 8 = .ok (.aload_n 0, 1) := by decide +kernel
theorem dX12_taken_9 : decode cX12_taken 9 = .ok (.getfield 15, 3) := by decide +kernel
theorem dX12_taken_12 : decode cX12_taken 12 = .ok (.iconst 3, 1) := by decide +kernel
theorem dX12_taken_13 : decode cX12_taken 13 = .ok (.iaload, 1) := by decide +kernel
theorem dX12_taken_14 : decode cX12_taken 14 = .ok (.iconst 2, 1) := by decide +kernel
theorem dX12_taken_15 : decode cX12_taken 15 = .ok (.if_icmp .ne 63, 3) := by decide +kernel
theorem dX12_taken_18 : decode cX12_taken 18 = .ok (.iconst 0, 1) := by decide +kernel
theorem dX12_taken_19 : decode cX12_taken 19 = .ok (.istore_n 2, 1) := by decide +kernel
theorem dX12_taken_20 : decode cX12_taken 20 = .ok (.iload_n 2, 1) := by decide +kernel
theorem dX12_taken_21 : decode cX12_taken 21 = .ok (.aload_n 0, 1) := by decide +kernel
theorem dX12_taken_22 : decode cX12_taken 22 = .ok (.getfield 22, 3) := by decide +kernel
theorem dX12_taken_25 : decode cX12_taken 25 = .ok (.invokeinterface 54 1, 5) := by decide +kernel
theorem dX12_taken_30 : decode cX12_taken 30 = .ok (.if_icmp .ge 46, 3) := by decide +kernel
theorem dX12_taken_33 : decode cX12_taken 33 = .ok (.aload_n 1, 1) := by decide +kernel
theorem dX12_taken_34 : decode cX12_taken 34 = .ok (.aload_n 0, 1) := by decide +kernel
theorem dX12_taken_35 : decode cX12_taken 35 = .ok (.getfield 22, 3) := by decide +kernel
theorem dX12_taken_38 : decode cX12_taken 38 = .ok (.iload_n 2, 1) := by decide +kernel
theorem dX12_taken_39 : decode cX12_taken 39 = .ok (.invokeinterface 65 2, 5) := by decide +kernel
theorem dX12_taken_44 : decode cX12_taken 44 = .ok (.checkcast 45, 3) := by decide +kernel
theorem dX12_taken_47 : decode cX12_taken 47 = .ok (.aload_n 0, 1) := by decide +kernel
theorem dX12_taken_48 : decode cX12_taken 48 = .ok (.getfield 26, 3) := by decide +kernel
theorem dX12_taken_51 : decode cX12_taken 51 = .ok (.invokeinterface 54 1, 5) := by decide +kernel
theorem dX12_taken_56 : decode cX12_taken 56 = .ok (.invokeinterface 65 2, 5) := by decide +kernel
theorem dX12_taken_61 : decode cX12_taken 61 = .ok (.checkcast 69, 3) := by decide +kernel
theorem dX12_taken_64 : decode cX12_taken 64 = .ok (.invokeinterface 44 2, 5) := by decide +kernel
theorem dX12_taken_69 : decode cX12_taken 69 = .ok (.pop, 1) := by decide +kernel
theorem dX12_taken_70 : decode cX12_taken 70 = .ok (.iinc 2 1, 3) := by decide +kernel
theorem dX12_taken_73 : decode cX12_taken 73 = .ok (.goto (-53), 3) := by decide +kernel
theorem dX12_taken_76 : decode cX12_taken 76 = .ok (.aload_n 1, 1) := by decide +kernel
theorem dX12_taken_77 : decode cX12_taken 77 = .ok (.areturn, 1) := by decide +kernel
theorem dX12_taken_78 : decode cX12_taken 78 = .ok (.aload_n 0, 1) := by decide +kernel
theorem dX12_taken_79 : decode cX12_taken 79 = .ok (.getfield 22, 3) := by decide +kernel
theorem dX12_taken_82 : decode cX12_taken 82 = .ok (.iconst 0, 1) := by decide +kernel
theorem dX12_taken_83 : decode cX12_taken 83 = .ok (.invokeinterface 65 2, 5) := by decide +kernel
theorem dX12_taken_88 : decode cX12_taken 88 = .ok (.checkcast 45, 3) := by decide +kernel
theorem dX12_taken_91 : decode cX12_taken 91 = .ok (.astore_n 2, 1) := by decide +kernel
theorem dX12_taken_92 : decode cX12_taken 92 = .ok (.aload_n 0, 1) := by decide +kernel
theorem dX12_taken_93 : decode cX12_taken 93 = .ok (.getfield 15, 3) := by decide +kernel
theorem dX12_taken_96 : decode cX12_taken 96 = .ok (.iconst 3, 1) := by decide +kernel
theorem dX12_taken_97 : decode cX12_taken 97 = .ok (.iaload, 1) := by decide +kernel
theorem dX12_taken_98 : decode cX12_taken 98 = .ok (.ifCond .ne 76, 3) := by decide +kernel
theorem dX12_taken_101 : decode cX12_taken 101 = .ok (.aload_n 0, 1) := by decide +kernel
theorem dX12_taken_102 : decode cX12_taken 102 = .ok (.getfield 26, 3) := by decide +kernel
theorem dX12_taken_105 : decode cX12_taken 105 = .ok (.invokeinterface 54 1, 5) := by decide +kernel
theorem dX12_taken_110 : decode cX12_taken 110 = .ok (.aload_n 0, 1) := by decide +kernel
theorem dX12_taken_111 : decode cX12_taken 111 = .ok (.getfield 15, 3) := by decide +kernel
theorem dX12_taken_114 : decode cX12_taken 114 = .ok (.iconst 4, 1) := by decide +kernel
theorem dX12_taken_115 : decode cX12_taken 115 = .ok (.iaload, 1) := by decide +kernel
theorem dX12_taken_116 : decode cX12_taken 116 = .ok (.imul, 1) := by decide +kernel
theorem dX12_taken_117 : decode cX12_taken 117 = .ok (.istore_n 3, 1) := by decide +kernel
theorem dX12_taken_118 : decode cX12_taken 118 = .ok (.iload_n 3, 1) := by decide +kernel
theorem dX12_taken_119 : decode cX12_taken 119 = .ok (.aload_n 2, 1) := by decide +kernel
theorem dX12_taken_120 : decode cX12_taken 120 = .ok (.invokeinterface 54 1, 5) := by decide +kernel
theorem dX12_taken_125 : decode cX12_taken 125 = .ok (.aload_n 0, 1) := by decide +kernel
theorem dX12_taken_126 : decode cX12_taken 126 = .ok (.getfield 26, 3) := by decide +kernel
theorem dX12_taken_129 : decode cX12_taken 129 = .ok (.invokeinterface 54 1, 5) := by decide +kernel
theorem dX12_taken_134 : decode cX12_taken 134 = .ok (.iconst 1, 1) := by decide +kernel
theorem dX12_taken_135 : decode cX12_taken 135 = .ok (.iadd, 1) := by decide +kernel
theorem dX12_taken_136 : decode cX12_taken 136 = .ok (.aload_n 0, 1) := by decide +kernel
theorem dX12_taken_137 : decode cX12_taken 137 = .ok (.getfield 15, 3) := by decide +kernel
theorem dX12_taken_140 : decode cX12_taken 140 = .ok (.iconst 4, 1) := by decide +kernel
theorem dX12_taken_141 : decode cX12_taken 141 = .ok (.iaload, 1) := by decide +kernel
theorem dX12_taken_142 : decode cX12_taken 142 = .ok (.imul, 1) := by decide +kernel
theorem dX12_taken_143 : decode cX12_taken 143 = .ok (.invokestatic 73, 3) := by decide +kernel
theorem dX12_taken_146 : decode cX12_taken 146 = .ok (.if_icmp .ge 26, 3) := by decide +kernel
theorem dX12_taken_149 : decode cX12_taken 149 = .ok (.aload_n 1, 1) := by decide +kernel
theorem dX12_taken_150 : decode cX12_taken 150 = .ok (.aload_n 2, 1) := by decide +kernel
theorem dX12_taken_151 : decode cX12_taken 151 = .ok (.iload_n 3, 1) := by decide +kernel
theorem dX12_taken_152 : decode cX12_taken 152 = .ok (.invokeinterface 65 2, 5) := by decide +kernel
theorem dX12_taken_157 : decode cX12_taken 157 = .ok (.checkcast 69, 3) := by decide +kernel
theorem dX12_taken_160 : decode cX12_taken 160 = .ok (.invokeinterface 44 2, 5) := by decide +kernel
theorem dX12_taken_165 : decode cX12_taken 165 = .ok (.pop, 1) := by decide +kernel
theorem dX12_taken_166 : decode cX12_taken 166 = .ok (.iinc 3 1, 3) := by decide +kernel
theorem dX12_taken_169 : decode cX12_taken 169 = .ok (.goto (-51), 3) := by decide +kernel
theorem dX12_taken_172 : decode cX12_taken 172 = .ok (.aload_n 1, 1) := by decide +kernel
theorem dX12_taken_173 : decode cX12_taken 173 = .ok (.areturn, 1) := by decide +kernel
theorem dX12_taken_174 : decode cX12_taken 174 = .ok (.aload_n 2, 1) := by decide +kernel
theorem dX12_taken_175 : decode cX12_taken 175 = .ok (.iconst (-1), 1) := by decide +kernel
theorem dX12_taken_176 : decode cX12_taken 176 = .ok (.invokestatic 79, 3) := by decide +kernel
theorem dX12_taken_179 : decode cX12_taken 179 = .ok (.istore_n 3, 1) := by decide +kernel
theorem dX12_taken_180 : decode cX12_taken 180 = .ok (.aload_n 2, 1) := by decide +kernel
theorem dX12_taken_181 : decode cX12_taken 181 = .ok (.iload_n 3, 1) := by decide +kernel
theorem dX12_taken_182 : decode cX12_taken 182 = .ok (.invokestatic 79, 3) := by decide +kernel
theorem dX12_taken_185 : decode cX12_taken 185 = .ok (.istore 4, 2) := by decide +kernel
theorem dX12_taken_187 : decode cX12_taken 187 = .ok (.aload_n 1, 1) := by decide +kernel
theorem dX12_taken_188 : decode cX12_taken 188 = .ok (.aload_n 2, 1) := by decide +kernel
theorem dX12_taken_189 : decode cX12_taken 189 = .ok (.iload_n 3, 1) := by decide +kernel
theorem dX12_taken_190 : decode cX12_taken 190 = .ok (.iload 4, 2) := by decide +kernel
theorem dX12_taken_192 : decode cX12_taken 192 = .ok (.invokestatic 73, 3) := by decide +kernel
theorem dX12_taken_195 : decode cX12_taken 195 = .ok (.invokeinterface 65 2, 5) := by decide +kernel
theorem dX12_taken_200 : decode cX12_taken 200 = .ok (.checkcast 69, 3) := by decide +kernel
theorem dX12_taken_203 : decode cX12_taken 203 = .ok (.invokeinterface 44 2, 5) := by decide +kernel
theorem dX12_taken_208 : decode cX12_taken 208 = .ok (.pop, 1) := by decide +kernel
theorem dX12_taken_209 : decode cX12_taken 209 = .ok (.aload_n 1, 1) := by decide +kernel
theorem dX12_taken_210 : decode cX12_taken 210 = .ok (.aload_n 2, 1) := by decide +kernel
theorem dX12_taken_211 : decode cX12_taken 211 = .ok (.iload_n 3, 1) := by decide +kernel
theorem dX12_taken_212 : decode cX12_taken 212 = .ok (.iload 4, 2) := by decide +kernel
theorem dX12_taken_214 : decode cX12_taken 214 = .ok (.invokestatic 83, 3) := by decide +kernel
theorem dX12_taken_217 : decode cX12_taken 217 = .ok (.invokeinterface 65 2, 5) := by decide +kernel
theorem dX12_taken_222 : decode cX12_taken 222 = .ok (.checkcast 69, 3) := by decide +kernel
theorem dX12_taken_225 : decode cX12_taken 225 = .ok (.invokeinterface 44 2, 5) := by decide +kernel
theorem dX12_taken_230 : decode cX12_taken 230 = .ok (.pop, 1) := by decide +kernel
theorem dX12_taken_231 : decode cX12_taken 231 = .ok (.aload_n 1, 1) := by decide +kernel
theorem dX12_taken_232 : decode cX12_taken 232 = .ok (.areturn, 1) := by decide +kernel
set_option maxRecDepth 20000 in
theorem ggX12_shortest_Jx4a65c_size_8abf5 : GoodIn wsX12_shortest wsJx4a65c_size_8abf5 := goodIn_r _ [6, 7, 25, 26, 27] (by decide +kernel) (by decide +kernel)
set_option maxRecDepth 20000 in
theorem gX12_shortest_Jx4a65c_size_8abf5_f54Jx4a65c : GoodIn wsX12_shortest (va_wsF RX12 54 RJx4a65c ⟨"java/util/List", "size", "()I"⟩ yJx4a65c_size_8abf5 wsJx4a65c_size_8abf5) := goodIn_app (goodIn_of _ (by decide +kernel)) ggX12_shortest_Jx4a65c_size_8abf5
set_option maxRecDepth 20000 in
theorem ggX12_shortest_Jx4a65c_get_915e3 : GoodIn wsX12_shortest wsJx4a65c_get_915e3 := goodIn_r _ [11, 7, 12, 13, 14, 15, 16, 17, 18, 19, 20, 21, 22, 5, 23, 24, 25, 26, 27] (by decide +kernel) (by decide +kernel)
set_option maxRecDepth 20000 in
theorem gX12_shortest_Jx4a65c_get_915e3_f65Jx4a65c : GoodIn wsX12_shortest (va_wsF RX12 65 RJx4a65c ⟨"java/util/List", "get", "(I)Ljava/lang/Object;"⟩ yJx4a65c_get_915e3 wsJx4a65c_get_915e3) := goodIn_app (goodIn_of _ (by decide +kernel)) ggX12_shortest_Jx4a65c_get_915e3
theorem dX12_shortest_0 : decode cX12_shortest 0 = .ok (.iconst (-1), 1) := by decide +kernel
theorem dX12_shortest_1 : decode cX12_shortest 1 = .ok (.istore_n 2, 1) := by decide +kernel
theorem dX12_shortest_2 : decode cX12_shortest 2 = .ok (.iconst 0, 1) := by decide +kernel
theorem dX12_shortest_3 : decode cX12_shortest 3 = .ok (.istore_n 3, 1) := by decide +kernel
theorem dX12_shortest_4 : decode cX12_shortest 4 = .ok (.iload_n 3, 1) := by decide +kernel
theorem dX12_shortest_5 : decode cX12_shortest 5 = .ok (.aload_n 0, 1) := by decide +kernel
theorem dX12_shortest_6 : decode cX12_shortest 6 = .ok (.invokeinterface 54 1, 5) := by decide +kernel
theorem dX12_shortest_11 : decode cX12_shortest 11 = .ok (.if_icmp .ge 50, 3) := by decide +kernel
theorem dX12_shortest_14 : decode cX12_shortest 14 = .ok (.iload_n 3, 1) := by decide +kernel
theorem dX12_shortest_15 : decode cX12_shortest 15 = .ok (.iload_n 1, 1) := by decide +kernel
theorem dX12_shortest_16 : decode cX12_shortest 16 = .ok (.if_icmp .eq 37, 3) := by decide +kernel
theorem dX12_shortest_19 : decode cX12_shortest 19 = .ok (.iload_n 2, 1) := by decide +kernel
theorem dX12_shortest_20 : decode cX12_shortest 20 = .ok (.iconst (-1), 1) := by decide +kernel
theorem dX12_shortest_21 : decode cX12_shortest 21 = .ok (.if_icmp .eq 28, 3) := by decide +kernel
theorem dX12_shortest_24 : decode cX12_shortest 24 = .ok (.aload_n 0, 1) := by decide +kernel
theorem dX12_shortest_25 : decode cX12_shortest 25 = .ok (.iload_n 3, 1) := by decide +kernel
theorem dX12_shortest_26 : decode cX12_shortest 26 = .ok (.invokeinterface 65 2, 5) := by decide +kernel
theorem dX12_shortest_31 : decode cX12_shortest 31 = .ok (.checkcast 69, 3) := by decide +kernel
theorem dX12_shortest_34 : decode cX12_shortest 34 = .ok (.arraylength, 1) := by decide +kernel
theorem dX12_shortest_35 : decode cX12_shortest 35 = .ok (.aload_n 0, 1) := by decide +kernel
theorem dX12_shortest_36 : decode cX12_shortest 36 = .ok (.iload_n 2, 1) := by decide +kernel
theorem dX12_shortest_37 : decode cX12_shortest 37 = .ok (.invokeinterface 65 2, 5) := by decide +kernel
theorem dX12_shortest_42 : decode cX12_shortest 42 = .ok (.checkcast 69, 3) := by decide +kernel
theorem dX12_shortest_45 : decode cX12_shortest 45 = .ok (.arraylength, 1) := by decide +kernel
theorem dX12_shortest_46 : decode cX12_shortest 46 = .ok (.if_icmp .ge 7, 3) := by decide +kernel
theorem dX12_shortest_49 : decode cX12_shortest 49 = .ok (.iload_n 3, 1) := by decide +kernel
theorem dX12_shortest_50 : decode cX12_shortest 50 = .ok (.goto 4, 3) := by decide +kernel
theorem dX12_shortest_53 : decode cX12_shortest 53 = .ok (.iload_n 2, 1) := by decide +kernel
theorem dX12_shortest_54 : decode cX12_shortest 54 = .ok (.istore_n 2, 1) := by decide +kernel
theorem dX12_shortest_55 : decode cX12_shortest 55 = .ok (.iinc 3 1, 3) := by decide +kernel
theorem dX12_shortest_58 : decode cX12_shortest 58 = .ok (.goto (-54), 3) := by decide +kernel
theorem dX12_shortest_61 : decode cX12_shortest 61 = .ok (.iload_n 2, 1) := by decide +kernel
theorem dX12_shortest_62 : decode cX12_shortest 62 = .ok (.ireturn, 1) := by decide +kernel
set_option maxRecDepth 20000 in
theorem ggX12_mergesOfPass_Jx4a65c_size_8abf5 : GoodIn wsX12_mergesOfPass wsJx4a65c_size_8abf5 := goodIn_r _ [8, 9, 39, 40, 41] (by decide +kernel) (by decide +kernel)
set_option maxRecDepth 20000 in
theorem gX12_mergesOfPass_Jx4a65c_size_8abf5_f54Jx4a65c : GoodIn wsX12_mergesOfPass (va_wsF RX12 54 RJx4a65c ⟨"java/util/List", "size", "()I"⟩ yJx4a65c_size_8abf5 wsJx4a65c_size_8abf5) := goodIn_app (goodIn_of _ (by decide +kernel)) ggX12_mergesOfPass_Jx4a65c_size_8abf5
set_option maxRecDepth 20000 in
theorem ggX12_mergesOfPass_Jx4a65c_get_915e3 : GoodIn wsX12_mergesOfPass wsJx4a65c_get_915e3 := goodIn_r _ [13, 9, 14, 15, 16, 17, 18, 19, 20, 21, 22, 23, 24, 7, 25, 26, 39, 40, 41] (by decide +kernel) (by decide +kernel)
set_option maxRecDepth 20000 in
theorem gX12_mergesOfPass_Jx4a65c_get_915e3_f65Jx4a65c : GoodIn wsX12_mergesOfPass (va_wsF RX12 65 RJx4a65c ⟨"java/util/List", "get", "(I)Ljava/lang/Object;"⟩ yJx4a65c_get_915e3 wsJx4a65c_get_915e3) := goodIn_app (goodIn_of _ (by decide +kernel)) ggX12_mergesOfPass_Jx4a65c_get_915e3
theorem dX12_mergesOfPass_0 : decode cX12_mergesOfPass 0 = .ok (.aload_n 0, 1) := by decide +kernel
theorem dX12_mergesOfPass_1 : decode cX12_mergesOfPass 1 = .ok (.getfield 15, 3) := by decide +kernel
theorem dX12_mergesOfPass_4 : decode cX12_mergesOfPass 4 = .ok (.iconst 3, 1) := by decide +kernel
theorem dX12_mergesOfPass_5 : decode cX12_mergesOfPass 5 = .ok (.iaload, 1) := by decide +kernel
theorem dX12_mergesOfPass_6 : decode cX12_mergesOfPass 6 = .ok (.iconst 1, 1) := by decide +kernel
theorem dX12_mergesOfPass_7 : decode cX12_mergesOfPass 7 = .ok (.if_icmp .ne 5, 3) := by decide +kernel
theorem dX12_mergesOfPass_10 : decode cX12_mergesOfPass 10 = .ok (.iconst 1, 1) := by decide +kernel
theorem dX12_mergesOfPass_11 : decode cX12_mergesOfPass 11 = .ok (.ireturn, 1) := by decide +kernel
theorem dX12_mergesOfPass_12 : decode cX12_mergesOfPass 12 = .ok (.aload_n 0, 1) := by decide +kernel
theorem dX12_mergesOfPass_13 : decode cX12_mergesOfPass 13 = .ok (.getfield 15, 3) := by decide +kernel
theorem dX12_mergesOfPass_16 : decode cX12_mergesOfPass 16 = .ok (.iconst 3, 1) := by decide +kernel
theorem dX12_mergesOfPass_17 : decode cX12_mergesOfPass 17 = .ok (.iaload, 1) := by decide +kernel
theorem dX12_mergesOfPass_18 : decode cX12_mergesOfPass 18 = .ok (.iconst 2, 1) := by decide +kernel
theorem dX12_mergesOfPass_19 : decode cX12_mergesOfPass 19 = .ok (.if_icmp .ne 32, 3) := by decide +kernel
theorem dX12_mergesOfPass_22 : decode cX12_mergesOfPass 22 = .ok (.aload_n 0, 1) := by decide +kernel
theorem dX12_mergesOfPass_23 : decode cX12_mergesOfPass 23 = .ok (.getfield 22, 3) := by decide +kernel
theorem dX12_mergesOfPass_26 : decode cX12_mergesOfPass 26 = .ok (.aload_n 0, 1) := by decide +kernel
theorem dX12_mergesOfPass_27 : decode cX12_mergesOfPass 27 = .ok (.getfield 22, 3) := by decide +kernel
theorem dX12_mergesOfPass_30 : decode cX12_mergesOfPass 30 = .ok (.invokeinterface 54 1, 5) := by decide +kernel
theorem dX12_mergesOfPass_35 : decode cX12_mergesOfPass 35 = .ok (.iconst 1, 1) := by decide +kernel
theorem dX12_mergesOfPass_36 : decode cX12_mergesOfPass 36 = .ok (.isub, 1) := by decide +kernel
theorem dX12_mergesOfPass_37 : decode cX12_mergesOfPass 37 = .ok (.invokeinterface 65 2, 5) := by decide +kernel
theorem dX12_mergesOfPass_42 : decode cX12_mergesOfPass 42 = .ok (.checkcast 45, 3) := by decide +kernel
theorem dX12_mergesOfPass_45 : decode cX12_mergesOfPass 45 = .ok (.invokeinterface 54 1, 5) := by decide +kernel
theorem dX12_mergesOfPass_50 : decode cX12_mergesOfPass 50 = .ok (.ireturn, 1) := by decide +kernel
theorem dX12_mergesOfPass_51 : decode cX12_mergesOfPass 51 = .ok (.aload_n 0, 1) := by decide +kernel
theorem dX12_mergesOfPass_52 : decode cX12_mergesOfPass 52 = .ok (.getfield 22, 3) := by decide +kernel
theorem dX12_mergesOfPass_55 : decode cX12_mergesOfPass 55 = .ok (.iconst 0, 1) := by decide +kernel
theorem dX12_mergesOfPass_56 : decode cX12_mergesOfPass 56 = .ok (.invokeinterface 65 2, 5) := by decide +kernel
theorem dX12_mergesOfPass_61 : decode cX12_mergesOfPass 61 = .ok (.checkcast 45, 3) := by decide +kernel
theorem dX12_mergesOfPass_64 : decode cX12_mergesOfPass 64 = .ok (.invokeinterface 54 1, 5) := by decide +kernel
theorem dX12_mergesOfPass_69 : decode cX12_mergesOfPass 69 = .ok (.istore_n 1, 1) := by decide +kernel
theorem dX12_mergesOfPass_70 : decode cX12_mergesOfPass 70 = .ok (.iload_n 1, 1) := by decide +kernel
theorem dX12_mergesOfPass_71 : decode cX12_mergesOfPass 71 = .ok (.aload_n 0, 1) := by decide +kernel
theorem dX12_mergesOfPass_72 : decode cX12_mergesOfPass 72 = .ok (.getfield 15, 3) := by decide +kernel
theorem dX12_mergesOfPass_75 : decode cX12_mergesOfPass 75 = .ok (.iconst 4, 1) := by decide +kernel
theorem dX12_mergesOfPass_76 : decode cX12_mergesOfPass 76 = .ok (.iaload, 1) := by decide +kernel
theorem dX12_mergesOfPass_77 : decode cX12_mergesOfPass 77 = .ok (.idiv, 1) := by decide +kernel
theorem dX12_mergesOfPass_78 : decode cX12_mergesOfPass 78 = .ok (.iload_n 1, 1) := by decide +kernel
theorem dX12_mergesOfPass_79 : decode cX12_mergesOfPass 79 = .ok (.aload_n 0, 1) := by decide +kernel
theorem dX12_mergesOfPass_80 : decode cX12_mergesOfPass 80 = .ok (.getfield 15, 3) := by decide +kernel
theorem dX12_mergesOfPass_83 : decode cX12_mergesOfPass 83 = .ok (.iconst 4, 1) := by decide +kernel
theorem dX12_mergesOfPass_84 : decode cX12_mergesOfPass 84 = .ok (.iaload, 1) := by decide +kernel
theorem dX12_mergesOfPass_85 : decode cX12_mergesOfPass 85 = .ok (.irem, 1) := by decide +kernel
theorem dX12_mergesOfPass_86 : decode cX12_mergesOfPass 86 = .ok (.iconst 1, 1) := by decide +kernel
theorem dX12_mergesOfPass_87 : decode cX12_mergesOfPass 87 = .ok (.if_icmp .le 7, 3) := by decide +kernel
theorem dX12_mergesOfPass_90 : decode cX12_mergesOfPass 90 = .ok (.iconst 1, 1) := by decide +kernel
theorem dX12_mergesOfPass_91 : decode cX12_mergesOfPass 91 = .ok (.goto 4, 3) := by decide +kernel
theorem dX12_mergesOfPass_94 : decode cX12_mergesOfPass 94 = .ok (.iconst 0, 1) := by decide +kernel
theorem dX12_mergesOfPass_95 : decode cX12_mergesOfPass 95 = .ok (.iadd, 1) := by decide +kernel
theorem dX12_mergesOfPass_96 : decode cX12_mergesOfPass 96 = .ok (.ireturn, 1) := by decide +kernel
set_option maxRecDepth 20000 in
theorem ggX12_behind_Jx4a65c_init_da8c8 : GoodIn wsX12_behind wsJx4a65c_init_da8c8 := goodIn_r _ [11, 12, 13, 14, 15, 16, 17, 18, 19, 20, 21, 22, 23, 24, 25, 113, 114, 115] (by decide +kernel) (by decide +kernel)
set_option maxRecDepth 20000 in
theorem gX12_behind_Jx4a65c_init_da8c8 : GoodIn wsX12_behind (wsJx4a65c_init_da8c8) := ggX12_behind_Jx4a65c_init_da8c8
set_option maxRecDepth 20000 in
theorem ggX12_behind_X12_taken0 : GoodIn wsX12_behind wsX12_taken0 := goodIn_r _ [30, 8, 1, 2, 3, 9, 10, 11, 12, 13, 14, 15, 16, 17, 18, 19, 20, 21, 22, 23, 24, 25, 31, 32, 33, 29, 34, 4, 5, 6, 7, 35, 36, 37, 38, 39, 40, 41, 42, 43, 44, 45, 46, 47, 48, 49, 50, 51, 52, 53, 54, 55, 56, 57, 58, 59, 60, 61, 62, 63, 64, 65, 66, 67, 68, 69, 70, 71, 72, 73, 74, 75, 76, 77, 78, 79, 80, 81, 82, 83, 84, 85, 86, 87, 88, 89, 90, 91, 92, 93, 94, 95, 96, 97, 98, 99, 100, 101, 102, 103, 104, 105, 106, 107, 108, 109, 110, 111, 112, 116, 117, 118, 119, 120, 121, 122, 123, 124, 125, 126, 127, 113, 114, 115] (by decide +kernel) (by decide +kernel)
