theorem dX13_isInOrder_0 : decode cX13_isInOrder 0 = .ok (.iconst 1, 1) := by decide +kernel
theorem dX13_isInOrder_1 : decode cX13_isInOrder 1 = .ok (.istore_n 3, 1) := by decide +kernel
theorem dX13_isInOrder_2 : decode cX13_isInOrder 2 = .ok (.iload_n 3, 1) := by decide +kernel
theorem dX13_isInOrder_3 : decode cX13_isInOrder 3 = .ok (.aload_n 1, 1) := by decide +kernel
theorem dX13_isInOrder_4 : decode cX13_isInOrder 4 = .ok (.arraylength, 1) := by decide +kernel
theorem dX13_isInOrder_5 : decode cX13_isInOrder 5 = .ok (.if_icmp .ge 27, 3) := by decide +kernel
theorem dX13_isInOrder_32 : decode cX13_isInOrder 32 = .ok (.iconst 1, 1) := by decide +kernel
theorem dX13_isInOrder_33 : decode cX13_isInOrder 33 = .ok (.ireturn, 1) := by decide +kernel
theorem dX13_isUp_0 : decode cX13_isUp 0 = .ok (.iload_n 1, 1) := by decide +kernel
set_option maxRecDepth 20000 in
theorem ggX13_isUp_X13_isTape : GoodIn wsX13_isUp wsX13_isTape := goodIn_r _ [5, 6, 7, 4, 8] (by decide +kernel) (by decide +kernel)
set_option maxRecDepth 20000 in
theorem gX13_isUp_X13_isTape : GoodIn wsX13_isUp (va_wsS RX13 44 yX13_isTape wsX13_isTape) := goodIn_app (goodIn_of _ (by decide +kernel)) ggX13_isUp_X13_isTape
theorem dX13_isUp_1 : decode cX13_isUp 1 = .ok (.invokestatic 44, 3) := by decide +kernel
theorem dX13_isUp_4 : decode cX13_isUp 4 = .ok (.ifCond .eq 21, 3) := by decide +kernel
theorem dX13_isUp_25 : decode cX13_isUp 25 = .ok (.iconst 0, 1) := by decide +kernel
theorem dX13_isUp_26 : decode cX13_isUp 26 = .ok (.ireturn, 1) := by decide +kernel
theorem dX13_isUp_7 : decode cX13_isUp 7 = .ok (.aload_n 0, 1) := by decide +kernel
theorem dX13_isUp_8 : decode cX13_isUp 8 = .ok (.aload_n 0, 1) := by decide +kernel
theorem dX13_isUp_9 : decode cX13_isUp 9 = .ok (.getfield 29, 3) := by decide +kernel
theorem dX13_isUp_12 : decode cX13_isUp 12 = .ok (.iload_n 1, 1) := by decide +kernel
theorem dX13_isUp_13 : decode cX13_isUp 13 = .ok (.aaload, 1) := by decide +kernel
theorem dX13_isUp_14 : decode cX13_isUp 14 = .ok (.iconst 0, 1) := by decide +kernel
set_option maxRecDepth 20000 in
theorem ggX13_isUp_X13_isInOrder : GoodIn wsX13_isUp wsX13_isInOrder := goodIn_r _ [12, 13, 14, 15, 4, 16, 17, 18, 19, 20, 21, 22, 23, 24, 25, 26, 27, 28, 29, 30, 31] (by decide +kernel) (by decide +kernel)
set_option maxRecDepth 20000 in
theorem gX13_isUp_X13_isInOrder : GoodIn wsX13_isUp (wsV RX13 71 RX13 yX13_isInOrder wsX13_isInOrder) := goodIn_app (goodIn_of _ (by decide +kernel)) ggX13_isUp_X13_isInOrder
theorem dX13_isUp_15 : decode cX13_isUp 15 = .ok (.invokevirtual 71, 3) := by decide +kernel
theorem dX13_isUp_18 : decode cX13_isUp 18 = .ok (.ifCond .eq 7, 3) := by decide +kernel
theorem dX13_isUp_21 : decode cX13_isUp 21 = .ok (.iconst 1, 1) := by decide +kernel
theorem dX13_isUp_22 : decode cX13_isUp 22 = .ok (.goto 4, 3) := by decide +kernel
theorem dX13_length_0 : decode cX13_length 0 = .ok (.aload_n 0, 1) := by decide +kernel
theorem dX13_length_1 : decode cX13_length 1 = .ok (.iload_n 1, 1) := by decide +kernel
set_option maxRecDepth 20000 in
theorem ggX13_length_X13_isTape : GoodIn wsX13_length wsX13_isTape := goodIn_r _ [5, 6, 7, 4, 8] (by decide +kernel) (by decide +kernel)
set_option maxRecDepth 20000 in
theorem gX13_length_X13_isTape : GoodIn wsX13_length (va_wsS RX13 44 yX13_isTape wsX13_isTape) := goodIn_app (goodIn_of _ (by decide +kernel)) ggX13_length_X13_isTape
theorem dX13_length_2 : decode cX13_length 2 = .ok (.invokestatic 44, 3) := by decide +kernel
theorem dX13_length_5 : decode cX13_length 5 = .ok (.iconst 1, 1) := by decide +kernel
theorem dX13_length_6 : decode cX13_length 6 = .ok (.iconst 1, 1) := by decide +kernel
set_option maxRecDepth 20000 in
theorem ggX13_length_X13_passes : GoodIn wsX13_length wsX13_passes := goodIn_r _ [12, 13, 14, 15, 16, 17, 18, 19, 20, 21, 22, 23, 24, 25, 26, 27] (by decide +kernel) (by decide +kernel)
set_option maxRecDepth 20000 in
theorem gX13_length_X13_passes : GoodIn wsX13_length (wsV RX13 55 RX13 yX13_passes wsX13_passes) := goodIn_app (goodIn_of _ (by decide +kernel)) ggX13_length_X13_passes
theorem dX13_length_7 : decode cX13_length 7 = .ok (.invokevirtual 55, 3) := by decide +kernel
theorem dX13_length_10 : decode cX13_length 10 = .ok (.ifCond .eq 13, 3) := by decide +kernel
theorem dX13_length_23 : decode cX13_length 23 = .ok (.iconst 0, 1) := by decide +kernel
theorem dX13_length_24 : decode cX13_length 24 = .ok (.ireturn, 1) := by decide +kernel
theorem dX13_length_13 : decode cX13_length 13 = .ok (.aload_n 0, 1) := by decide +kernel
theorem dX13_length_14 : decode cX13_length 14 = .ok (.getfield 29, 3) := by decide +kernel
theorem dX13_length_17 : decode cX13_length 17 = .ok (.iload_n 1, 1) := by decide +kernel
theorem dX13_length_18 : decode cX13_length 18 = .ok (.aaload, 1) := by decide +kernel
theorem dX13_length_19 : decode cX13_length 19 = .ok (.arraylength, 1) := by decide +kernel
theorem dX13_length_20 : decode cX13_length 20 = .ok (.goto 4, 3) := by decide +kernel
theorem dX13_digest_0 : decode cX13_digest 0 = .ok (.aload_n 0, 1) := by decide +kernel
theorem dX13_digest_1 : decode cX13_digest 1 = .ok (.iload_n 1, 1) := by decide +kernel
set_option maxRecDepth 20000 in
theorem ggX13_digest_X13_isTape : GoodIn wsX13_digest wsX13_isTape := goodIn_r _ [5, 6, 7, 4, 8] (by decide +kernel) (by decide +kernel)
set_option maxRecDepth 20000 in
theorem gX13_digest_X13_isTape : GoodIn wsX13_digest (va_wsS RX13 44 yX13_isTape wsX13_isTape) := goodIn_app (goodIn_of _ (by decide +kernel)) ggX13_digest_X13_isTape
theorem dX13_digest_2 : decode cX13_digest 2 = .ok (.invokestatic 44, 3) := by decide +kernel
theorem dX13_digest_5 : decode cX13_digest 5 = .ok (.iconst 1, 1) := by decide +kernel
theorem dX13_digest_6 : decode cX13_digest 6 = .ok (.iconst 1, 1) := by decide +kernel
set_option maxRecDepth 20000 in
theorem ggX13_digest_X13_passes : GoodIn wsX13_digest wsX13_passes := goodIn_r _ [12, 13, 14, 15, 16, 17, 18, 19, 20, 21, 22, 23, 24, 25, 26, 27] (by decide +kernel) (by decide +kernel)
set_option maxRecDepth 20000 in
theorem gX13_digest_X13_passes : GoodIn wsX13_digest (wsV RX13 55 RX13 yX13_passes wsX13_passes) := goodIn_app (goodIn_of _ (by decide +kernel)) ggX13_digest_X13_passes
theorem dX13_digest_7 : decode cX13_digest 7 = .ok (.invokevirtual 55, 3) := by decide +kernel
theorem dX13_digest_10 : decode cX13_digest 10 = .ok (.ifCond .ne 5, 3) := by decide +kernel
theorem dX13_digest_15 : decode cX13_digest 15 = .ok (.bipush 7, 2) := by decide +kernel
theorem dX13_digest_17 : decode cX13_digest 17 = .ok (.istore_n 2, 1) := by decide +kernel
theorem dX13_digest_18 : decode cX13_digest 18 = .ok (.iconst 0, 1) := by decide +kernel
theorem dX13_digest_19 : decode cX13_digest 19 = .ok (.istore_n 3, 1) := by decide +kernel
theorem dX13_digest_20 : decode cX13_digest 20 = .ok (.iload_n 3, 1) := by decide +kernel
theorem dX13_digest_21 : decode cX13_digest 21 = .ok (.aload_n 0, 1) := by decide +kernel
theorem dX13_digest_22 : decode cX13_digest 22 = .ok (.getfield 29, 3) := by decide +kernel
theorem dX13_digest_25 : decode cX13_digest 25 = .ok (.iload_n 1, 1) := by decide +kernel
theorem dX13_digest_26 : decode cX13_digest 26 = .ok (.aaload, 1) := by decide +kernel
theorem dX13_digest_27 : decode cX13_digest 27 = .ok (.arraylength, 1) := by decide +kernel
theorem dX13_digest_28 : decode cX13_digest 28 = .ok (.if_icmp .ge 23, 3) := by decide +kernel
theorem dX13_digest_51 : decode cX13_digest 51 = .ok (.iload_n 2, 1) := by decide +kernel
theorem dX13_digest_52 : decode cX13_digest 52 = .ok (.ireturn, 1) := by decide +kernel
theorem dX13_digest_13 : decode cX13_digest 13 = .ok (.iconst 0, 1) := by decide +kernel
theorem dX13_digest_14 : decode cX13_digest 14 = .ok (.ireturn, 1) := by decide +kernel
theorem dX13_find_0 : decode cX13_find 0 = .ok (.aload_n 0, 1) := by decide +kernel
theorem dX13_find_1 : decode cX13_find 1 = .ok (.iload_n 1, 1) := by decide +kernel
set_option maxRecDepth 20000 in
theorem ggX13_find_X13_isTape : GoodIn wsX13_find wsX13_isTape := goodIn_r _ [6, 7, 8, 5, 9] (by decide +kernel) (by decide +kernel)
set_option maxRecDepth 20000 in
theorem gX13_find_X13_isTape : GoodIn wsX13_find (va_wsS RX13 44 yX13_isTape wsX13_isTape) := goodIn_app (goodIn_of _ (by decide +kernel)) ggX13_find_X13_isTape
theorem dX13_find_2 : decode cX13_find 2 = .ok (.invokestatic 44, 3) := by decide +kernel
theorem dX13_find_5 : decode cX13_find 5 = .ok (.aload_n 0, 1) := by decide +kernel
theorem dX13_find_6 : decode cX13_find 6 = .ok (.iload_n 1, 1) := by decide +kernel
set_option maxRecDepth 20000 in
theorem ggX13_find_X13_isUp : GoodIn wsX13_find wsX13_isUp := goodIn_r _ [13, 1, 3, 4, 5, 6, 7, 8, 9, 14, 15, 16, 17, 18, 19, 20, 21, 2, 27, 28, 29, 30, 31, 32, 33, 34, 35, 36, 37, 38, 39, 40] (by decide +kernel) (by decide +kernel)
set_option maxRecDepth 20000 in
theorem gX13_find_X13_isUp : GoodIn wsX13_find (wsV RX13 213 RX13 yX13_isUp wsX13_isUp) := goodIn_app (goodIn_of _ (by decide +kernel)) ggX13_find_X13_isUp
theorem dX13_find_7 : decode cX13_find 7 = .ok (.invokevirtual 213, 3) := by decide +kernel
theorem dX13_find_10 : decode cX13_find 10 = .ok (.iconst 1, 1) := by decide +kernel
set_option maxRecDepth 20000 in
theorem ggX13_find_X13_passes : GoodIn wsX13_find wsX13_passes := goodIn_r _ [25, 26, 27, 28, 29, 30, 31, 32, 33, 34, 35, 36, 37, 38, 39, 40] (by decide +kernel) (by decide +kernel)
set_option maxRecDepth 20000 in
theorem gX13_find_X13_passes : GoodIn wsX13_find (wsV RX13 55 RX13 yX13_passes wsX13_passes) := goodIn_app (goodIn_of _ (by decide +kernel)) ggX13_find_X13_passes
theorem dX13_find_11 : decode cX13_find 11 = .ok (.invokevirtual 55, 3) := by decide +kernel
theorem dX13_find_14 : decode cX13_find 14 = .ok (.ifCond .ne 5, 3) := by decide +kernel
theorem dX13_find_19 : decode cX13_find 19 = .ok (.iconst 0, 1) := by decide +kernel
theorem dX13_find_20 : decode cX13_find 20 = .ok (.istore_n 3, 1) := by decide +kernel
theorem dX13_find_21 : decode cX13_find 21 = .ok (.iload_n 3, 1) := by decide +kernel
theorem dX13_find_22 : decode cX13_find 22 = .ok (.aload_n 0, 1) := by decide +kernel
theorem dX13_find_23 : decode cX13_find 23 = .ok (.getfield 29, 3) := by decide +kernel
theorem dX13_find_26 : decode cX13_find 26 = .ok (.iload_n 1, 1) := by decide +kernel
theorem dX13_find_27 : decode cX13_find 27 = .ok (.aaload, 1) := by decide +kernel
theorem dX13_find_28 : decode cX13_find 28 = .ok (.arraylength, 1) := by decide +kernel
theorem dX13_find_29 : decode cX13_find 29 = .ok (.if_icmp .ge 28, 3) := by decide +kernel
theorem dX13_find_57 : decode cX13_find 57 = .ok (.iconst (-1), 1) := by decide +kernel
theorem dX13_find_58 : decode cX13_find 58 = .ok (.ireturn, 1) := by decide +kernel
theorem dX13_find_17 : decode cX13_find 17 = .ok (.iconst 0, 1) := by decide +kernel
theorem dX13_find_18 : decode cX13_find 18 = .ok (.ireturn, 1) := by decide +kernel
theorem dX13_between_0 : decode cX13_between 0 = .ok (.aload_n 0, 1) := by decide +kernel
theorem dX13_between_1 : decode cX13_between 1 = .ok (.iload_n 1, 1) := by decide +kernel
set_option maxRecDepth 20000 in
theorem ggX13_between_X13_isTape : GoodIn wsX13_between wsX13_isTape := goodIn_r _ [6, 7, 8, 5, 9] (by decide +kernel) (by decide +kernel)
set_option maxRecDepth 20000 in
theorem gX13_between_X13_isTape : GoodIn wsX13_between (va_wsS RX13 44 yX13_isTape wsX13_isTape) := goodIn_app (goodIn_of _ (by decide +kernel)) ggX13_between_X13_isTape
theorem dX13_between_2 : decode cX13_between 2 = .ok (.invokestatic 44, 3) := by decide +kernel
theorem dX13_between_5 : decode cX13_between 5 = .ok (.aload_n 0, 1) := by decide +kernel
theorem dX13_between_6 : decode cX13_between 6 = .ok (.iload_n 1, 1) := by decide +kernel
set_option maxRecDepth 20000 in
theorem ggX13_between_X13_isUp : GoodIn wsX13_between wsX13_isUp := goodIn_r _ [13, 1, 3, 4, 5, 6, 7, 8, 9, 14, 15, 16, 17, 18, 19, 20, 21, 2, 27, 28, 29, 30, 31, 32, 33, 34, 35, 36, 37, 38, 39, 40] (by decide +kernel) (by decide +kernel)
set_option maxRecDepth 20000 in
theorem gX13_between_X13_isUp : GoodIn wsX13_between (wsV RX13 213 RX13 yX13_isUp wsX13_isUp) := goodIn_app (goodIn_of _ (by decide +kernel)) ggX13_between_X13_isUp
theorem dX13_between_7 : decode cX13_between 7 = .ok (.invokevirtual 213, 3) := by decide +kernel
theorem dX13_between_10 : decode cX13_between 10 = .ok (.iconst 1, 1) := by decide +kernel
set_option maxRecDepth 20000 in
theorem ggX13_between_X13_passes : GoodIn wsX13_between wsX13_passes := goodIn_r _ [25, 26, 27, 28, 29, 30, 31, 32, 33, 34, 35, 36, 37, 38, 39, 40] (by decide +kernel) (by decide +kernel)
set_option maxRecDepth 20000 in
theorem gX13_between_X13_passes : GoodIn wsX13_between (wsV RX13 55 RX13 yX13_passes wsX13_passes) := goodIn_app (goodIn_of _ (by decide +kernel)) ggX13_between_X13_passes
theorem dX13_between_11 : decode cX13_between 11 = .ok (.invokevirtual 55, 3) := by decide +kernel
theorem dX13_between_14 : decode cX13_between 14 = .ok (.ifCond .ne 5, 3) := by decide +kernel
theorem dX13_between_19 : decode cX13_between 19 = .ok (.iconst 0, 1) := by decide +kernel
theorem dX13_between_20 : decode cX13_between 20 = .ok (.istore 4, 2) := by decide +kernel
theorem dX13_between_22 : decode cX13_between 22 = .ok (.iconst 0, 1) := by decide +kernel
theorem dX13_between_23 : decode cX13_between 23 = .ok (.istore 5, 2) := by decide +kernel
theorem dX13_between_25 : decode cX13_between 25 = .ok (.iload 5, 2) := by decide +kernel
theorem dX13_between_27 : decode cX13_between 27 = .ok (.aload_n 0, 1) := by decide +kernel
theorem dX13_between_28 : decode cX13_between 28 = .ok (.getfield 29, 3) := by decide +kernel
theorem dX13_between_31 : decode cX13_between 31 = .ok (.iload_n 1, 1) := by decide +kernel
theorem dX13_between_32 : decode cX13_between 32 = .ok (.aaload, 1) := by decide +kernel
theorem dX13_between_33 : decode cX13_between 33 = .ok (.arraylength, 1) := by decide +kernel
theorem dX13_between_34 : decode cX13_between 34 = .ok (.if_icmp .ge 41, 3) := by decide +kernel
theorem dX13_between_75 : decode cX13_between 75 = .ok (.iload 4, 2) := by decide +kernel
theorem dX13_between_77 : decode cX13_between 77 = .ok (.ireturn, 1) := by decide +kernel
theorem dX13_between_17 : decode cX13_between 17 = .ok (.iconst 0, 1) := by decide +kernel
theorem dX13_between_18 : decode cX13_between 18 = .ok (.ireturn, 1) := by decide +kernel
theorem dX13_isSorted_0 : decode cX13_isSorted 0 = .ok (.aload_n 0, 1) := by decide +kernel
theorem dX13_isSorted_1 : decode cX13_isSorted 1 = .ok (.iload_n 1, 1) := by decide +kernel
set_option maxRecDepth 20000 in
theorem ggX13_isSorted_X13_isTape : GoodIn wsX13_isSorted wsX13_isTape := goodIn_r _ [5, 6, 7, 4, 8] (by decide +kernel) (by decide +kernel)
set_option maxRecDepth 20000 in
theorem gX13_isSorted_X13_isTape : GoodIn wsX13_isSorted (va_wsS RX13 44 yX13_isTape wsX13_isTape) := goodIn_app (goodIn_of _ (by decide +kernel)) ggX13_isSorted_X13_isTape
theorem dX13_isSorted_2 : decode cX13_isSorted 2 = .ok (.invokestatic 44, 3) := by decide +kernel
theorem dX13_isSorted_5 : decode cX13_isSorted 5 = .ok (.iload_n 2, 1) := by decide +kernel
theorem dX13_isSorted_6 : decode cX13_isSorted 6 = .ok (.iconst 0, 1) := by decide +kernel
theorem dX13_isSorted_7 : decode cX13_isSorted 7 = .ok (.iconst 1, 1) := by decide +kernel
set_option maxRecDepth 20000 in
theorem ggX13_isSorted_X13_in : GoodIn wsX13_isSorted wsX13_in := goodIn_r _ [8] (by decide +kernel) (by decide +kernel)
set_option maxRecDepth 20000 in
theorem gX13_isSorted_X13_in : GoodIn wsX13_isSorted (va_wsS RX13 7 yX13_in wsX13_in) := goodIn_app (goodIn_of _ (by decide +kernel)) ggX13_isSorted_X13_in
theorem dX13_isSorted_8 : decode cX13_isSorted 8 = .ok (.invokestatic 7, 3) := by decide +kernel
theorem dX13_isSorted_11 : decode cX13_isSorted 11 = .ok (.iconst 1, 1) := by decide +kernel
set_option maxRecDepth 20000 in
theorem ggX13_isSorted_X13_passes : GoodIn wsX13_isSorted wsX13_passes := goodIn_r _ [12, 13, 23, 24, 25, 26, 27, 28, 29, 30, 31, 32, 33, 34, 35, 36] (by decide +kernel) (by decide +kernel)
set_option maxRecDepth 20000 in
theorem gX13_isSorted_X13_passes : GoodIn wsX13_isSorted (wsV RX13 55 RX13 yX13_passes wsX13_passes) := goodIn_app (goodIn_of _ (by decide +kernel)) ggX13_isSorted_X13_passes
theorem dX13_isSorted_12 : decode cX13_isSorted 12 = .ok (.invokevirtual 55, 3) := by decide +kernel
theorem dX13_isSorted_15 : decode cX13_isSorted 15 = .ok (.ifCond .eq 21, 3) := by decide +kernel
theorem dX13_isSorted_36 : decode cX13_isSorted 36 = .ok (.iconst 0, 1) := by decide +kernel
theorem dX13_isSorted_37 : decode cX13_isSorted 37 = .ok (.ireturn, 1) := by decide +kernel
theorem dX13_isSorted_18 : decode cX13_isSorted 18 = .ok (.aload_n 0, 1) := by decide +kernel
theorem dX13_isSorted_19 : decode cX13_isSorted 19 = .ok (.aload_n 0, 1) := by decide +kernel
theorem dX13_isSorted_20 : decode cX13_isSorted 20 = .ok (.getfield 29, 3) := by decide +kernel
theorem dX13_isSorted_23 : decode cX13_isSorted 23 = .ok (.iload_n 1, 1) := by decide +kernel
theorem dX13_isSorted_24 : decode cX13_isSorted 24 = .ok (.aaload, 1) := by decide +kernel
theorem dX13_isSorted_25 : decode cX13_isSorted 25 = .ok (.iload_n 2, 1) := by decide +kernel
set_option maxRecDepth 20000 in
theorem ggX13_isSorted_X13_isInOrder : GoodIn wsX13_isSorted wsX13_isInOrder := goodIn_r _ [17, 18, 19, 20, 4, 21, 22, 23, 24, 25, 26, 27, 28, 29, 30, 31, 32, 33, 34, 35, 36] (by decide +kernel) (by decide +kernel)
set_option maxRecDepth 20000 in
theorem gX13_isSorted_X13_isInOrder : GoodIn wsX13_isSorted (wsV RX13 71 RX13 yX13_isInOrder wsX13_isInOrder) := goodIn_app (goodIn_of _ (by decide +kernel)) ggX13_isSorted_X13_isInOrder
theorem dX13_isSorted_26 : decode cX13_isSorted 26 = .ok (.invokevirtual 71, 3) := by decide +kernel
theorem dX13_isSorted_29 : decode cX13_isSorted 29 = .ok (.ifCond .eq 7, 3) := by decide +kernel
theorem dX13_isSorted_32 : decode cX13_isSorted 32 = .ok (.iconst 1, 1) := by decide +kernel
theorem dX13_isSorted_33 : decode cX13_isSorted 33 = .ok (.goto 4, 3) := by decide +kernel
theorem dX13_floor_0 : decode cX13_floor 0 = .ok (.iconst 0, 1) := by decide +kernel
theorem dX13_floor_1 : decode cX13_floor 1 = .ok (.istore_n 3, 1) := by decide +kernel
theorem dX13_floor_2 : decode cX13_floor 2 = .ok (.iconst 0, 1) := by decide +kernel
theorem dX13_floor_3 : decode cX13_floor 3 = .ok (.istore 4, 2) := by decide +kernel
theorem dX13_floor_5 : decode cX13_floor 5 = .ok (.iconst 0, 1) := by decide +kernel
theorem dX13_floor_6 : decode cX13_floor 6 = .ok (.istore 5, 2) := by decide +kernel
theorem dX13_floor_8 : decode cX13_floor 8 = .ok (.iload_n 1, 1) := by decide +kernel
set_option maxRecDepth 20000 in
theorem ggX13_floor_X13_isTape : GoodIn wsX13_floor wsX13_isTape := goodIn_r _ [6, 7, 8, 5, 9] (by decide +kernel) (by decide +kernel)
set_option maxRecDepth 20000 in
theorem gX13_floor_X13_isTape : GoodIn wsX13_floor (va_wsS RX13 44 yX13_isTape wsX13_isTape) := goodIn_app (goodIn_of _ (by decide +kernel)) ggX13_floor_X13_isTape
theorem dX13_floor_9 : decode cX13_floor 9 = .ok (.invokestatic 44, 3) := by decide +kernel
theorem dX13_floor_12 : decode cX13_floor 12 = .ok (.ifCond .eq 77, 3) := by decide +kernel
theorem dX13_floor_89 : decode cX13_floor 89 = .ok (.aload_n 0, 1) := by decide +kernel
theorem dX13_floor_90 : decode cX13_floor 90 = .ok (.iload_n 1, 1) := by decide +kernel
theorem dX13_floor_91 : decode cX13_floor 91 = .ok (.invokestatic 44, 3) := by decide +kernel
theorem dX13_floor_94 : decode cX13_floor 94 = .ok (.aload_n 0, 1) := by decide +kernel
theorem dX13_floor_95 : decode cX13_floor 95 = .ok (.iload_n 1, 1) := by decide +kernel
set_option maxRecDepth 20000 in
theorem ggX13_floor_X13_isUp : GoodIn wsX13_floor wsX13_isUp := goodIn_r _ [13, 1, 3, 4, 5, 6, 7, 8, 9, 14, 15, 16, 17, 18, 19, 20, 21, 2, 27, 28, 29, 30, 31, 32, 33, 34, 35, 36, 37, 38, 39, 40] (by decide +kernel) (by decide +kernel)
set_option maxRecDepth 20000 in
theorem gX13_floor_X13_isUp : GoodIn wsX13_floor (wsV RX13 213 RX13 yX13_isUp wsX13_isUp) := goodIn_app (goodIn_of _ (by decide +kernel)) ggX13_floor_X13_isUp
theorem dX13_floor_96 : decode cX13_floor 96 = .ok (.invokevirtual 213, 3) := by decide +kernel
theorem dX13_floor_99 : decode cX13_floor 99 = .ok (.iload_n 3, 1) := by decide +kernel
set_option maxRecDepth 20000 in
theorem ggX13_floor_X13_passes : GoodIn wsX13_floor wsX13_passes := goodIn_r _ [25, 26, 27, 28, 29, 30, 31, 32, 33, 34, 35, 36, 37, 38, 39, 40] (by decide +kernel) (by decide +kernel)
set_option maxRecDepth 20000 in
theorem gX13_floor_X13_passes : GoodIn wsX13_floor (wsV RX13 55 RX13 yX13_passes wsX13_passes) := goodIn_app (goodIn_of _ (by decide +kernel)) ggX13_floor_X13_passes
theorem dX13_floor_100 : decode cX13_floor 100 = .ok (.invokevirtual 55, 3) := by decide +kernel
theorem dX13_floor_103 : decode cX13_floor 103 = .ok (.ifCond .eq 8, 3) := by decide +kernel
theorem dX13_floor_111 : decode cX13_floor 111 = .ok (.iconst 0, 1) := by decide +kernel
theorem dX13_floor_112 : decode cX13_floor 112 = .ok (.ireturn, 1) := by decide +kernel
theorem dX13_floor_15 : decode cX13_floor 15 = .ok (.iload 5, 2) := by decide +kernel
theorem dX13_floor_17 : decode cX13_floor 17 = .ok (.aload_n 0, 1) := by decide +kernel
theorem dX13_floor_18 : decode cX13_floor 18 = .ok (.getfield 29, 3) := by decide +kernel
theorem dX13_floor_21 : decode cX13_floor 21 = .ok (.iload_n 1, 1) := by decide +kernel
theorem dX13_floor_22 : decode cX13_floor 22 = .ok (.aaload, 1) := by decide +kernel
theorem dX13_floor_23 : decode cX13_floor 23 = .ok (.arraylength, 1) := by decide +kernel
theorem dX13_floor_24 : decode cX13_floor 24 = .ok (.if_icmp .ge 65, 3) := by decide +kernel
theorem dX13_ceiling_0 : decode cX13_ceiling 0 = .ok (.iconst 0, 1) := by decide +kernel
theorem dX13_ceiling_1 : decode cX13_ceiling 1 = .ok (.istore_n 3, 1) := by decide +kernel
theorem dX13_ceiling_2 : decode cX13_ceiling 2 = .ok (.iconst 0, 1) := by decide +kernel
theorem dX13_ceiling_3 : decode cX13_ceiling 3 = .ok (.istore 4, 2) := by decide +kernel
theorem dX13_ceiling_5 : decode cX13_ceiling 5 = .ok (.iconst 0, 1) := by decide +kernel
theorem dX13_ceiling_6 : decode cX13_ceiling 6 = .ok (.istore 5, 2) := by decide +kernel
theorem dX13_ceiling_8 : decode cX13_ceiling 8 = .ok (.iload_n 1, 1) := by decide +kernel
set_option maxRecDepth 20000 in
theorem ggX13_ceiling_X13_isTape : GoodIn wsX13_ceiling wsX13_isTape := goodIn_r _ [6, 7, 8, 5, 9] (by decide +kernel) (by decide +kernel)
set_option maxRecDepth 20000 in
theorem gX13_ceiling_X13_isTape : GoodIn wsX13_ceiling (va_wsS RX13 44 yX13_isTape wsX13_isTape) := goodIn_app (goodIn_of _ (by decide +kernel)) ggX13_ceiling_X13_isTape
theorem dX13_ceiling_9 : decode cX13_ceiling 9 = .ok (.invokestatic 44, 3) := by decide +kernel
theorem dX13_ceiling_12 : decode cX13_ceiling 12 = .ok (.ifCond .eq 77, 3) := by decide +kernel
theorem dX13_ceiling_89 : decode cX13_ceiling 89 = .ok (.aload_n 0, 1) := by decide +kernel
theorem dX13_ceiling_90 : decode cX13_ceiling 90 = .ok (.iload_n 1, 1) := by decide +kernel
theorem dX13_ceiling_91 : decode cX13_ceiling 91 = .ok (.invokestatic 44, 3) := by decide +kernel
theorem dX13_ceiling_94 : decode cX13_ceiling 94 = .ok (.aload_n 0, 1) := by decide +kernel
theorem dX13_ceiling_95 : decode cX13_ceiling 95 = .ok (.iload_n 1, 1) := by decide +kernel
set_option maxRecDepth 20000 in
theorem ggX13_ceiling_X13_isUp : GoodIn wsX13_ceiling wsX13_isUp := goodIn_r _ [13, 1, 3, 4, 5, 6, 7, 8, 9, 14, 15, 16, 17, 18, 19, 20, 21, 2, 27, 28, 29, 30, 31, 32, 33, 34, 35, 36, 37, 38, 39, 40] (by decide +kernel) (by decide +kernel)
set_option maxRecDepth 20000 in
theorem gX13_ceiling_X13_isUp : GoodIn wsX13_ceiling (wsV RX13 213 RX13 yX13_isUp wsX13_isUp) := goodIn_app (goodIn_of _ (by decide +kernel)) ggX13_ceiling_X13_isUp
theorem dX13_ceiling_96 : decode cX13_ceiling 96 = .ok (.invokevirtual 213, 3) := by decide +kernel
theorem dX13_ceiling_99 : decode cX13_ceiling 99 = .ok (.iload_n 3, 1) := by decide +kernel
set_option maxRecDepth 20000 in
theorem ggX13_ceiling_X13_passes : GoodIn wsX13_ceiling wsX13_passes := goodIn_r _ [25, 26, 27, 28, 29, 30, 31, 32, 33, 34, 35, 36, 37, 38, 39, 40] (by decide +kernel) (by decide +kernel)
set_option maxRecDepth 20000 in
theorem gX13_ceiling_X13_passes : GoodIn wsX13_ceiling (wsV RX13 55 RX13 yX13_passes wsX13_passes) := goodIn_app (goodIn_of _ (by decide +kernel)) ggX13_ceiling_X13_passes
theorem dX13_ceiling_100 : decode cX13_ceiling 100 = .ok (.invokevirtual 55, 3) := by decide +kernel
theorem dX13_ceiling_103 : decode cX13_ceiling 103 = .ok (.ifCond .eq 8, 3) := by decide +kernel
theorem dX13_ceiling_111 : decode cX13_ceiling 111 = .ok (.iconst 0, 1) := by decide +kernel
theorem dX13_ceiling_112 : decode cX13_ceiling 112 = .ok (.ireturn, 1) := by decide +kernel
theorem dX13_ceiling_15 : decode cX13_ceiling 15 = .ok (.iload 5, 2) := by decide +kernel
theorem dX13_ceiling_17 : decode cX13_ceiling 17 = .ok (.aload_n 0, 1) := by decide +kernel
theorem dX13_ceiling_18 : decode cX13_ceiling 18 = .ok (.getfield 29, 3) := by decide +kernel
theorem dX13_ceiling_21 : decode cX13_ceiling 21 = .ok (.iload_n 1, 1) := by decide +kernel
theorem dX13_ceiling_22 : decode cX13_ceiling 22 = .ok (.aaload, 1) := by decide +kernel
theorem dX13_ceiling_23 : decode cX13_ceiling 23 = .ok (.arraylength, 1) := by decide +kernel
theorem dX13_ceiling_24 : decode cX13_ceiling 24 = .ok (.if_icmp .ge 65, 3) := by decide +kernel
theorem dX13_meanKey_0 : decode cX13_meanKey 0 = .ok (.aload_n 0, 1) := by decide +kernel
theorem dX13_meanKey_1 : decode cX13_meanKey 1 = .ok (.iload_n 1, 1) := by decide +kernel
set_option maxRecDepth 20000 in
theorem ggX13_meanKey_X13_isTape : GoodIn wsX13_meanKey wsX13_isTape := goodIn_r _ [6, 7, 8, 5, 9] (by decide +kernel) (by decide +kernel)
set_option maxRecDepth 20000 in
theorem gX13_meanKey_X13_isTape : GoodIn wsX13_meanKey (va_wsS RX13 44 yX13_isTape wsX13_isTape) := goodIn_app (goodIn_of _ (by decide +kernel)) ggX13_meanKey_X13_isTape
theorem dX13_meanKey_2 : decode cX13_meanKey 2 = .ok (.invokestatic 44, 3) := by decide +kernel
theorem dX13_meanKey_5 : decode cX13_meanKey 5 = .ok (.iconst 1, 1) := by decide +kernel
theorem dX13_meanKey_6 : decode cX13_meanKey 6 = .ok (.iconst 1, 1) := by decide +kernel
set_option maxRecDepth 20000 in
theorem ggX13_meanKey_X13_passes : GoodIn wsX13_meanKey wsX13_passes := goodIn_r _ [13, 14, 15, 16, 17, 18, 19, 20, 21, 22, 23, 24, 25, 26, 27, 28] (by decide +kernel) (by decide +kernel)
set_option maxRecDepth 20000 in
theorem gX13_meanKey_X13_passes : GoodIn wsX13_meanKey (wsV RX13 55 RX13 yX13_passes wsX13_passes) := goodIn_app (goodIn_of _ (by decide +kernel)) ggX13_meanKey_X13_passes
theorem dX13_meanKey_7 : decode cX13_meanKey 7 = .ok (.invokevirtual 55, 3) := by decide +kernel
theorem dX13_meanKey_10 : decode cX13_meanKey 10 = .ok (.ifCond .ne 5, 3) := by decide +kernel
theorem dX13_meanKey_15 : decode cX13_meanKey 15 = .ok (.iconst 0, 1) := by decide +kernel
theorem dX13_meanKey_16 : decode cX13_meanKey 16 = .ok (.istore_n 2, 1) := by decide +kernel
theorem dX13_meanKey_17 : decode cX13_meanKey 17 = .ok (.iconst 0, 1) := by decide +kernel
theorem dX13_meanKey_18 : decode cX13_meanKey 18 = .ok (.istore_n 3, 1) := by decide +kernel
theorem dX13_meanKey_19 : decode cX13_meanKey 19 = .ok (.iload_n 3, 1) := by decide +kernel
theorem dX13_meanKey_20 : decode cX13_meanKey 20 = .ok (.aload_n 0, 1) := by decide +kernel
theorem dX13_meanKey_21 : decode cX13_meanKey 21 = .ok (.getfield 29, 3) := by decide +kernel
theorem dX13_meanKey_24 : decode cX13_meanKey 24 = .ok (.iload_n 1, 1) := by decide +kernel
theorem dX13_meanKey_25 : decode cX13_meanKey 25 = .ok (.aaload, 1) := by decide +kernel
theorem dX13_meanKey_26 : decode cX13_meanKey 26 = .ok (.arraylength, 1) := by decide +kernel
theorem dX13_meanKey_27 : decode cX13_meanKey 27 = .ok (.if_icmp .ge 25, 3) := by decide +kernel
theorem dX13_meanKey_52 : decode cX13_meanKey 52 = .ok (.aload_n 0, 1) := by decide +kernel
theorem dX13_meanKey_53 : decode cX13_meanKey 53 = .ok (.getfield 29, 3) := by decide +kernel
theorem dX13_meanKey_56 : decode cX13_meanKey 56 = .ok (.iload_n 1, 1) := by decide +kernel
theorem dX13_meanKey_57 : decode cX13_meanKey 57 = .ok (.aaload, 1) := by decide +kernel
theorem dX13_meanKey_58 : decode cX13_meanKey 58 = .ok (.arraylength, 1) := by decide +kernel
theorem dX13_meanKey_59 : decode cX13_meanKey 59 = .ok (.ifCond .ne 7, 3) := by decide +kernel
theorem dX13_meanKey_62 : decode cX13_meanKey 62 = .ok (.dconst 0, 1) := by decide +kernel
theorem dX13_meanKey_63 : decode cX13_meanKey 63 = .ok (.goto 14, 3) := by decide +kernel
theorem dX13_meanKey_77 : decode cX13_meanKey 77 = .ok (.dreturn, 1) := by decide +kernel
theorem dX13_meanKey_13 : decode cX13_meanKey 13 = .ok (.dconst 0, 1) := by decide +kernel
theorem dX13_meanKey_14 : decode cX13_meanKey 14 = .ok (.dreturn, 1) := by decide +kernel
set_option maxHeartbeats 4000000 in
set_option maxRecDepth 100000 in
theorem c_X13_isInOrder (l : Launch) (dC : Nat → ClassId) (dI : Nat → Nat → Nat) (g : Nat → ClassId) (Wd : va_W) (o : Nat) (rw_ : Nat) (od : Int32) (fr : Nat → Int32) (k0 : Nat) (w0 : Wd[k0]? = some (rw_, .inl (g 0, 0, .inl fr))) (sz : Nat) : Met l yX13_isInOrder wsX13_isInOrder ({ frames := 0, cells := 0, slots := 0, locals := 0 }) (va_Pc [.ref o, .ref rw_, .int od] (PG (dC, dI) g Wd sz)) (va_Qi (fun (r : Int32) (_ : Unit) => r = 1) (fun (_ : Unit) t => va_P (dC, dI) vwCl Wd t.heap) (va_A Wd sz)) 0 0 (va_A Wd sz) := by
  refine Met.ofW (cc := cX13_isInOrder) (maxL := 4) (ret := (some .boolean)) (by decide) rfl ?_
  intro p e s m args below meth c s₁ B hml hv
  obtain ⟨rfl, hsz, hP, hK, hD0, hG⟩ := hv
  have hx := B.exec
  have hb := B.bytes
  have hr := B.returns
  have hts := atoms_spec (ws := wsX13_isInOrder) B.pre
  have hown : s.vm.findClass RX13 = some m.cls := findClass_of_methodNamed B.named
  have hlocks := B.notSynchronized
  subst hsz
  have hD := hD0.self (sz := s.heap.size)
  generalize hAe : va_A Wd s.heap.size = A at hD hG ⊢
  have hA : ∀ q : Nat, s.heap.size ≤ q → A q := fun q h => by rw [← hAe]; exact Or.inr h
  have hS : va_S A s.heap s.heap [] := va_S.rf
  have hl := lv_entry ([.ref o, .ref rw_, .int od]) (n := 4) (Nat.le_of_ble_eq_true rfl)
  rw [lg_entry_eq]
  generalize (lg_sl ([.ref o, .ref rw_, .int od]) ++ List.replicate (4 - (lg_sl ([.ref o, .ref rw_, .int od])).length) Slot.unset).toArray = ls at hl ⊢
  have hl : lv_has ls 4 [(0, .ref o), (1, .ref rw_), (2, .int od)] := hl
  refine lv_iconst (v := 1) hx hb dX13_isInOrder_0 (by decide) ?_
  refine lv_istore_n (lv' := [(3, .int 1), (0, .ref o), (1, .ref rw_), (2, .int od)]) hx hb dX13_isInOrder_1 rfl hl (by decide) rfl (fun ls hl => ?_)
  refine lv_iload_n hx hb dX13_isInOrder_2 rfl (lv_at hl 0 rfl) ?_
  refine lv_aload_n hx hb dX13_isInOrder_3 rfl (lv_at hl 2 rfl) ?_
  refine va_alen hx hb hK hP k0 0 w0 rfl (v := 0) rfl dX13_isInOrder_4 ?_
  refine lv_icmp_ge (tgt := 32) hx hb dX13_isInOrder_5 (by decide) (fun c_1 => ?_) (fun c_1 => absurd (by decide) c_1)
  refine lv_iconst (v := 1) hx hb dX13_isInOrder_32 (by decide) ?_
  exact W.zret (v := 1) hx hb hr rfl (fun t ht hW => ⟨⟨1, (), rfl, rfl, P_at ht hP⟩, hS.F ht⟩) hS.2.2 dX13_isInOrder_33
set_option maxHeartbeats 4000000 in
set_option maxRecDepth 100000 in
theorem c_X13_isUp (l : Launch) (dC : Nat → ClassId) (dI : Nat → Nat → Nat) (g : Nat → ClassId) (b : Nat → Nat) (r1 : Nat → Nat) (r2 : Nat → Nat) (x : Int32) (th : Int32) (sz : Nat) : Met l yX13_isUp wsX13_isUp ({ frames := 2, cells := 0, slots := 0, locals := 42 }) (va_Pc [.ref (b 0), .int x] (PG (dC, dI) g (modW b r1 r2 g th) sz)) (va_Qi (fun (r : Int32) (_ : Unit) => r = b2i (TOKb x)) (fun (_ : Unit) t => va_P (dC, dI) vwCl (modW b r1 r2 g th) t.heap) (va_A (modW b r1 r2 g th) sz)) 0 0 (va_A (modW b r1 r2 g th) sz) := by
  refine Met.ofW (cc := cX13_isUp) (maxL := 2) (ret := (some .boolean)) (by decide) rfl ?_
  intro p e s m args below meth c s₁ B hml hv
  obtain ⟨rfl, hsz, hP, hK, hD0, hG⟩ := hv
  have hx := B.exec
  have hb := B.bytes
  have hr := B.returns
  have hts := atoms_spec (ws := wsX13_isUp) B.pre
  have hown : s.vm.findClass RX13 = some m.cls := findClass_of_methodNamed B.named
  have hlocks := B.notSynchronized
  subst hsz
  have hD := hD0.self (sz := s.heap.size)
  generalize hAe : va_A (modW b r1 r2 g th) s.heap.size = A at hD hG ⊢
  have hA : ∀ q : Nat, s.heap.size ≤ q → A q := fun q h => by rw [← hAe]; exact Or.inr h
  have hS : va_S A s.heap s.heap [] := va_S.rf
  have hl := lv_entry ([.ref (b 0), .int x]) (n := 2) (Nat.le_of_ble_eq_true rfl)
  rw [lg_entry_eq]
  generalize (lg_sl ([.ref (b 0), .int x]) ++ List.replicate (2 - (lg_sl ([.ref (b 0), .int x])).length) Slot.unset).toArray = ls at hl ⊢
  have hl : lv_has ls 2 [(0, .ref (b 0)), (1, .int x)] := hl
  have hf29 := hts (Cond.fieldLink RX13 29 "RunmergeOfficeModel" "tapes" "[[I") (by decide +kernel)
  have hiX13 : ∀ w ∈ u_ws RX13 TX13 14, w ∈ wsX13_isUp := by decide +kernel
  refine lv_iload_n hx hb dX13_isUp_0 rfl (lv_at hl 1 rfl) ?_
  refine va_calli (va_runS (As := [.int x]) (rest := []) ⟨hx, hb, hml, hown, hts⟩ (c_X13_isTape l dC dI g (modW b r1 r2 g th) x   s.heap.size) (va_cwS 1 hts gX13_isUp_X13_isTape rfl rfl rfl (by decide +kernel) ⟨Nat.le_of_ble_eq_true rfl, Nat.le_of_ble_eq_true rfl⟩) ⟨PG_blind, PG_call hK hG hS hP hD (A_all hD hA hS.1)⟩ rfl rfl hl.1 rfl (lv_room (Nat.le_of_ble_eq_true rfl)) dX13_isUp_1 ⟨Nat.le_of_ble_eq_true rfl, Nat.le_of_ble_eq_true rfl⟩) hS (fun q _ h => (A_all hD hA hS.1) q h) (A_all hD hA hS.1) (fun r_1 u_1 t_1 H_1 L_1 ht_1 hvm_1 hw_1 hB_1 hz_1 hk_1 hS => ?_)
  replace hB_1 := (show va_P (dC, dI) vwCl (modW b r1 r2 g th) t_1.heap from hB_1)
  rw [ht_1] at hB_1
  have hP := hB_1
  obtain rfl : r_1 = b2i (TOKb x) := hw_1
  refine lv_if_eq (tgt := 25) hx hb dX13_isUp_4 (by decide) (fun c_2 => ?_) (fun c_2 => ?_)
  · have hB_3 : (TOKb x) = false := b2i_0 c_2
    refine lv_iconst (v := 0) hx hb dX13_isUp_25 (by decide) ?_
    exact W.zret (v := 0) hx hb hr rfl (fun t ht hW => ⟨⟨0, (), rfl, by rw [hB_3]; rfl, P_at ht hP⟩, hS.F ht⟩) hS.2.2 dX13_isUp_26
  · have hB_3 : (TOKb x) = true := b2i_1 c_2
    obtain ⟨jx, hjx, rfl⟩ := TOK_ex hB_3
    refine lv_aload_n hx hb dX13_isUp_7 rfl (lv_at hl 0 rfl) ?_
    refine lv_aload_n hx hb dX13_isUp_8 rfl (lv_at hl 0 rfl) ?_
    refine va_get (D := (dC, dI)) (ci := 15) (v := .ref (b 3)) (C := RX13) (T := TX13) (N := 14) hx hb hts hiX13 hown hK hP 0 (m_0 b r1 r2 g th) rfl 4 (by decide) hf29 (fun _ h9 => h9) rfl dX13_isUp_9 ?_
    refine lv_iload_n hx hb dX13_isUp_12 rfl (lv_at hl 1 rfl) ?_
    refine va_aldA hx hb hK hP 3 (m_3 b r1 r2 g th) (vp_in_nI hjx (by decide)) dX13_isUp_13 ?_
    refine W.eq (g2 := F0 m 14 ls [.ref (r1 jx), .ref (b 0)]) (by rw [nI_clamp (show jx < 2 ^ 31 by omega)]; simp only [if_pos hjx]; rfl) ?_
    refine lv_iconst (v := 0) hx hb dX13_isUp_14 (by decide) ?_
    refine va_calli (va_runV (As := [.ref (r1 jx), .int 0]) (rest := []) ⟨hx, hb, hml, hown, hts⟩ (c_X13_isInOrder l dC dI g (modW b r1 r2 g th) (b 0) (r1 jx) 0 (fun _ => 0) (7 + jx) (m_row1 b r1 r2 g th jx hjx)  H_1.size) (cwV 2 hts gX13_isUp_X13_isInOrder rfl rfl rfl (by decide +kernel) ⟨Nat.le_of_ble_eq_true rfl, Nat.le_of_ble_eq_true rfl⟩) ⟨PG_blind, va_recv hK hP (ci := 15) (q0 := 0) rfl (m_0 b r1 r2 g th), PG_call hK hG hS hP hD (A_all hD hA hS.1)⟩ rfl rfl hl.1 rfl (lv_room (Nat.le_of_ble_eq_true rfl)) dX13_isUp_15 ⟨Nat.le_of_ble_eq_true rfl, Nat.le_of_ble_eq_true rfl⟩) hS (fun q _ h => (A_all hD hA hS.1) q h) (A_all hD hA hS.1) (fun r_4 u_4 t_4 H_4 L_4 ht_4 hvm_4 hw_4 hB_4 hz_4 hk_4 hS => ?_)
    replace hB_4 := (show va_P (dC, dI) vwCl (modW b r1 r2 g th) t_4.heap from hB_4)
    rw [ht_4] at hB_4
    have hP := hB_4
    obtain rfl : r_4 = 1 := hw_4
    refine lv_if_eq (tgt := 25) hx hb dX13_isUp_18 (by decide) (fun c_5 => absurd c_5 (by decide)) (fun c_5 => ?_)
    refine lv_iconst (v := 1) hx hb dX13_isUp_21 (by decide) ?_
    refine lv_goto (tgt := 26) hx hb dX13_isUp_22 (by decide) ?_
    exact W.zret (v := 1) hx hb hr rfl (fun t ht hW => ⟨⟨1, (), rfl, by rw [(TOK_j hjx rfl)]; rfl, P_at ht hP⟩, hS.F ht⟩) hS.2.2 dX13_isUp_26
set_option maxHeartbeats 4000000 in
set_option maxRecDepth 100000 in
theorem c_X13_length (l : Launch) (dC : Nat → ClassId) (dI : Nat → Nat → Nat) (g : Nat → ClassId) (b : Nat → Nat) (r1 : Nat → Nat) (r2 : Nat → Nat) (x : Int32) (th : Int32) (sz : Nat) : Met l yX13_length wsX13_length ({ frames := 2, cells := 0, slots := 0, locals := 42 }) (va_Pc [.ref (b 0), .int x] (PG (dC, dI) g (modW b r1 r2 g th) sz)) (va_Qi (fun (r : Int32) (_ : Unit) => (cd (TOKb x) true true) = 0 → r = 0) (fun (_ : Unit) t => ∃ fs : List Value, va_P (dC, dI) vwCl [(b 0, .inr (15, .int (cd (TOKb x) true true) :: fs))] t.heap) (va_A (modW b r1 r2 g th) sz)) 0 0 (va_A (modW b r1 r2 g th) sz) := by
  refine Met.ofW (cc := cX13_length) (maxL := 2) (ret := (some .int)) (by decide) rfl ?_
  intro p e s m args below meth c s₁ B hml hv
  obtain ⟨rfl, hsz, hP, hK, hD0, hG⟩ := hv
  have hx := B.exec
  have hb := B.bytes
  have hr := B.returns
  have hts := atoms_spec (ws := wsX13_length) B.pre
  have hown : s.vm.findClass RX13 = some m.cls := findClass_of_methodNamed B.named
  have hlocks := B.notSynchronized
  subst hsz
  have hD := hD0.self (sz := s.heap.size)
  generalize hAe : va_A (modW b r1 r2 g th) s.heap.size = A at hD hG ⊢
  have hA : ∀ q : Nat, s.heap.size ≤ q → A q := fun q h => by rw [← hAe]; exact Or.inr h
  have hS : va_S A s.heap s.heap [] := va_S.rf
  have hl := lv_entry ([.ref (b 0), .int x]) (n := 2) (Nat.le_of_ble_eq_true rfl)
  rw [lg_entry_eq]
  generalize (lg_sl ([.ref (b 0), .int x]) ++ List.replicate (2 - (lg_sl ([.ref (b 0), .int x])).length) Slot.unset).toArray = ls at hl ⊢
  have hl : lv_has ls 2 [(0, .ref (b 0)), (1, .int x)] := hl
  have hf29 := hts (Cond.fieldLink RX13 29 "RunmergeOfficeModel" "tapes" "[[I") (by decide +kernel)
  have hiX13 : ∀ w ∈ u_ws RX13 TX13 14, w ∈ wsX13_length := by decide +kernel
  refine lv_aload_n hx hb dX13_length_0 rfl (lv_at hl 0 rfl) ?_
  refine lv_iload_n hx hb dX13_length_1 rfl (lv_at hl 1 rfl) ?_
  refine va_calli (va_runS (As := [.int x]) (rest := [.ref (b 0)]) ⟨hx, hb, hml, hown, hts⟩ (c_X13_isTape l dC dI g (modW b r1 r2 g th) x   s.heap.size) (va_cwS 1 hts gX13_length_X13_isTape rfl rfl rfl (by decide +kernel) ⟨Nat.le_of_ble_eq_true rfl, Nat.le_of_ble_eq_true rfl⟩) ⟨PG_blind, PG_call hK hG hS hP hD (A_all hD hA hS.1)⟩ rfl rfl hl.1 rfl (lv_room (Nat.le_of_ble_eq_true rfl)) dX13_length_2 ⟨Nat.le_of_ble_eq_true rfl, Nat.le_of_ble_eq_true rfl⟩) hS (fun q _ h => (A_all hD hA hS.1) q h) (A_all hD hA hS.1) (fun r_1 u_1 t_1 H_1 L_1 ht_1 hvm_1 hw_1 hB_1 hz_1 hk_1 hS => ?_)
  replace hB_1 := (show va_P (dC, dI) vwCl (modW b r1 r2 g th) t_1.heap from hB_1)
  rw [ht_1] at hB_1
  have hP := hB_1
  obtain rfl : r_1 = b2i (TOKb x) := hw_1
  refine lv_iconst (v := 1) hx hb dX13_length_5 (by decide) ?_
  refine lv_iconst (v := 1) hx hb dX13_length_6 (by decide) ?_
  refine va_calli (va_runV (As := [.int (b2i (TOKb x)), .int 1, .int 1]) (rest := []) ⟨hx, hb, hml, hown, hts⟩ (c_X13_passes l dC dI g b r1 r2 th (TOKb x) true true  H_1.size) (cwV 3 hts gX13_length_X13_passes rfl rfl rfl (by decide +kernel) ⟨Nat.le_of_ble_eq_true rfl, Nat.le_of_ble_eq_true rfl⟩) ⟨PG_blind, va_recv hK hP (ci := 15) (q0 := 0) rfl (m_0 b r1 r2 g th), PG_call hK hG hS hP hD (A_all hD hA hS.1)⟩ rfl rfl hl.1 rfl (lv_room (Nat.le_of_ble_eq_true rfl)) dX13_length_7 ⟨Nat.le_of_ble_eq_true rfl, Nat.le_of_ble_eq_true rfl⟩) hS (fun q _ h => (A_all hD hA hS.1) q h) (A_all hD hA hS.1) (fun r_2 u_2 t_2 H_2 L_2 ht_2 hvm_2 hw_2 hB_2 hz_2 hk_2 hS => ?_)
  rw [ht_2] at hB_2
  have hP : va_P (dC, dI) vwCl (modW b r1 r2 g (cd (TOKb x) true true)) H_2 := hB_2
  have hD : va_D A (modW b r1 r2 g (cd (TOKb x) true true)) := va_D_th hD
  obtain rfl : r_2 = b2i (TOKb x) := hw_2.trans (by simp)
  refine lv_if_eq (tgt := 23) hx hb dX13_length_10 (by decide) (fun c_3 => ?_) (fun c_3 => ?_)
  · have hB_4 : (TOKb x) = false := b2i_0 c_3
    refine lv_iconst (v := 0) hx hb dX13_length_23 (by decide) ?_
    have hcd : (cd (TOKb x) true true) = (cd (TOKb x) true true) := rfl
    have hP8 := hP.sub (ws' := [((b 0), .inr (15, [.int (cd (TOKb x) true true), .ref (b 1), .ref (b 2), .int 0, .ref (b 3), .ref (b 4), .ref (b 5), .null, .ref (b 6), .int 0, .int 0, .int 0, .int 0, .int 0]))]) [0] rfl
    rw [hcd] at hP8
    exact W.iret (v := 0) hx hb hr (fun t ht hW => ⟨⟨0, (), rfl, (fun h => by first | rfl | (exact absurd (cd_0.mp h) (by simp [hB_4]))), ⟨[.ref (b 1), .ref (b 2), .int 0, .ref (b 3), .ref (b 4), .ref (b 5), .null, .ref (b 6), .int 0, .int 0, .int 0, .int 0, .int 0], P_at ht hP8⟩⟩, hS.F ht⟩) hS.2.2 dX13_length_24
  · have hB_4 : (TOKb x) = true := b2i_1 c_3
    obtain ⟨jx, hjx, rfl⟩ := TOK_ex hB_4
    refine lv_aload_n hx hb dX13_length_13 rfl (lv_at hl 0 rfl) ?_
    refine va_get (D := (dC, dI)) (ci := 15) (v := .ref (b 3)) (C := RX13) (T := TX13) (N := 14) hx hb hts hiX13 hown hK hP 0 (m_0 b r1 r2 g (cd (TOKb (nI jx)) true true)) rfl 4 (by decide) hf29 (fun _ h9 => h9) rfl dX13_length_14 ?_
    refine lv_iload_n hx hb dX13_length_17 rfl (lv_at hl 1 rfl) ?_
    refine va_aldA hx hb hK hP 3 (m_3 b r1 r2 g (cd (TOKb (nI jx)) true true)) (vp_in_nI hjx (by decide)) dX13_length_18 ?_
    refine W.eq (g2 := F0 m 19 ls [.ref (r1 jx)]) (by rw [nI_clamp (show jx < 2 ^ 31 by omega)]; simp only [if_pos hjx]; rfl) ?_
    refine va_alen hx hb hK hP (7 + jx) 0 (m_row1 b r1 r2 g (cd (TOKb (nI jx)) true true) jx hjx) rfl (v := 0) rfl dX13_length_19 ?_
    refine lv_goto (tgt := 24) hx hb dX13_length_20 (by decide) ?_
    have hcd : (cd (TOKb (nI jx)) true true) = (cd (TOKb (nI jx)) true true) := rfl
    have hP8 := hP.sub (ws' := [((b 0), .inr (15, [.int (cd (TOKb (nI jx)) true true), .ref (b 1), .ref (b 2), .int 0, .ref (b 3), .ref (b 4), .ref (b 5), .null, .ref (b 6), .int 0, .int 0, .int 0, .int 0, .int 0]))]) [0] rfl
    rw [hcd] at hP8
    exact W.iret (v := 0) hx hb hr (fun t ht hW => ⟨⟨0, (), rfl, (fun h => by first | rfl | (exact absurd (cd_0.mp h) (by simp [(TOK_j hjx rfl)]))), ⟨[.ref (b 1), .ref (b 2), .int 0, .ref (b 3), .ref (b 4), .ref (b 5), .null, .ref (b 6), .int 0, .int 0, .int 0, .int 0, .int 0], P_at ht hP8⟩⟩, hS.F ht⟩) hS.2.2 dX13_length_24
set_option maxHeartbeats 4000000 in
set_option maxRecDepth 100000 in
theorem c_X13_digest (l : Launch) (dC : Nat → ClassId) (dI : Nat → Nat → Nat) (g : Nat → ClassId) (b : Nat → Nat) (r1 : Nat → Nat) (r2 : Nat → Nat) (x : Int32) (th : Int32) (sz : Nat) : Met l yX13_digest wsX13_digest ({ frames := 2, cells := 0, slots := 0, locals := 42 }) (va_Pc [.ref (b 0), .int x] (PG (dC, dI) g (modW b r1 r2 g th) sz)) (va_Qi (fun (r : Int32) (_ : Unit) => (cd (TOKb x) true true) = 0 → r = 7) (fun (_ : Unit) t => ∃ fs : List Value, va_P (dC, dI) vwCl [(b 0, .inr (15, .int (cd (TOKb x) true true) :: fs))] t.heap) (va_A (modW b r1 r2 g th) sz)) 0 0 (va_A (modW b r1 r2 g th) sz) := by
  refine Met.ofW (cc := cX13_digest) (maxL := 4) (ret := (some .int)) (by decide) rfl ?_
  intro p e s m args below meth c s₁ B hml hv
  obtain ⟨rfl, hsz, hP, hK, hD0, hG⟩ := hv
  have hx := B.exec
  have hb := B.bytes
  have hr := B.returns
  have hts := atoms_spec (ws := wsX13_digest) B.pre
  have hown : s.vm.findClass RX13 = some m.cls := findClass_of_methodNamed B.named
  have hlocks := B.notSynchronized
  subst hsz
  have hD := hD0.self (sz := s.heap.size)
  generalize hAe : va_A (modW b r1 r2 g th) s.heap.size = A at hD hG ⊢
  have hA : ∀ q : Nat, s.heap.size ≤ q → A q := fun q h => by rw [← hAe]; exact Or.inr h
  have hS : va_S A s.heap s.heap [] := va_S.rf
  have hl := lv_entry ([.ref (b 0), .int x]) (n := 4) (Nat.le_of_ble_eq_true rfl)
  rw [lg_entry_eq]
  generalize (lg_sl ([.ref (b 0), .int x]) ++ List.replicate (4 - (lg_sl ([.ref (b 0), .int x])).length) Slot.unset).toArray = ls at hl ⊢
  have hl : lv_has ls 4 [(0, .ref (b 0)), (1, .int x)] := hl
  have hf29 := hts (Cond.fieldLink RX13 29 "RunmergeOfficeModel" "tapes" "[[I") (by decide +kernel)
  have hiX13 : ∀ w ∈ u_ws RX13 TX13 14, w ∈ wsX13_digest := by decide +kernel
  refine lv_aload_n hx hb dX13_digest_0 rfl (lv_at hl 0 rfl) ?_
  refine lv_iload_n hx hb dX13_digest_1 rfl (lv_at hl 1 rfl) ?_
  refine va_calli (va_runS (As := [.int x]) (rest := [.ref (b 0)]) ⟨hx, hb, hml, hown, hts⟩ (c_X13_isTape l dC dI g (modW b r1 r2 g th) x   s.heap.size) (va_cwS 1 hts gX13_digest_X13_isTape rfl rfl rfl (by decide +kernel) ⟨Nat.le_of_ble_eq_true rfl, Nat.le_of_ble_eq_true rfl⟩) ⟨PG_blind, PG_call hK hG hS hP hD (A_all hD hA hS.1)⟩ rfl rfl hl.1 rfl (lv_room (Nat.le_of_ble_eq_true rfl)) dX13_digest_2 ⟨Nat.le_of_ble_eq_true rfl, Nat.le_of_ble_eq_true rfl⟩) hS (fun q _ h => (A_all hD hA hS.1) q h) (A_all hD hA hS.1) (fun r_1 u_1 t_1 H_1 L_1 ht_1 hvm_1 hw_1 hB_1 hz_1 hk_1 hS => ?_)
  replace hB_1 := (show va_P (dC, dI) vwCl (modW b r1 r2 g th) t_1.heap from hB_1)
  rw [ht_1] at hB_1
  have hP := hB_1
  obtain rfl : r_1 = b2i (TOKb x) := hw_1
  refine lv_iconst (v := 1) hx hb dX13_digest_5 (by decide) ?_
  refine lv_iconst (v := 1) hx hb dX13_digest_6 (by decide) ?_
  refine va_calli (va_runV (As := [.int (b2i (TOKb x)), .int 1, .int 1]) (rest := []) ⟨hx, hb, hml, hown, hts⟩ (c_X13_passes l dC dI g b r1 r2 th (TOKb x) true true  H_1.size) (cwV 3 hts gX13_digest_X13_passes rfl rfl rfl (by decide +kernel) ⟨Nat.le_of_ble_eq_true rfl, Nat.le_of_ble_eq_true rfl⟩) ⟨PG_blind, va_recv hK hP (ci := 15) (q0 := 0) rfl (m_0 b r1 r2 g th), PG_call hK hG hS hP hD (A_all hD hA hS.1)⟩ rfl rfl hl.1 rfl (lv_room (Nat.le_of_ble_eq_true rfl)) dX13_digest_7 ⟨Nat.le_of_ble_eq_true rfl, Nat.le_of_ble_eq_true rfl⟩) hS (fun q _ h => (A_all hD hA hS.1) q h) (A_all hD hA hS.1) (fun r_2 u_2 t_2 H_2 L_2 ht_2 hvm_2 hw_2 hB_2 hz_2 hk_2 hS => ?_)
  rw [ht_2] at hB_2
  have hP : va_P (dC, dI) vwCl (modW b r1 r2 g (cd (TOKb x) true true)) H_2 := hB_2
  have hD : va_D A (modW b r1 r2 g (cd (TOKb x) true true)) := va_D_th hD
  obtain rfl : r_2 = b2i (TOKb x) := hw_2.trans (by simp)
  refine lv_if_ne (tgt := 15) hx hb dX13_digest_10 (by decide) (fun c_3 => ?_) (fun c_3 => ?_)
  · have hB_4 : (TOKb x) = true := b2i_1 c_3
    obtain ⟨jx, hjx, rfl⟩ := TOK_ex hB_4
    refine lv_bipush (v := 7) hx hb dX13_digest_15 (by decide) ?_
    refine lv_istore_n (lv' := [(2, .int 7), (0, .ref (b 0)), (1, .int (nI jx))]) hx hb dX13_digest_17 rfl hl (by decide) rfl (fun ls hl => ?_)
    refine lv_iconst (v := 0) hx hb dX13_digest_18 (by decide) ?_
    refine lv_istore_n (lv' := [(3, .int 0), (2, .int 7), (0, .ref (b 0)), (1, .int (nI jx))]) hx hb dX13_digest_19 rfl hl (by decide) rfl (fun ls hl => ?_)
    refine lv_iload_n hx hb dX13_digest_20 rfl (lv_at hl 0 rfl) ?_
    refine lv_aload_n hx hb dX13_digest_21 rfl (lv_at hl 2 rfl) ?_
    refine va_get (D := (dC, dI)) (ci := 15) (v := .ref (b 3)) (C := RX13) (T := TX13) (N := 14) hx hb hts hiX13 hown hK hP 0 (m_0 b r1 r2 g (cd (TOKb (nI jx)) true true)) rfl 4 (by decide) hf29 (fun _ h9 => h9) rfl dX13_digest_22 ?_
    refine lv_iload_n hx hb dX13_digest_25 rfl (lv_at hl 3 rfl) ?_
    refine va_aldA hx hb hK hP 3 (m_3 b r1 r2 g (cd (TOKb (nI jx)) true true)) (vp_in_nI hjx (by decide)) dX13_digest_26 ?_
    refine W.eq (g2 := F0 m 27 ls [.ref (r1 jx), .int 0]) (by rw [nI_clamp (show jx < 2 ^ 31 by omega)]; simp only [if_pos hjx]; rfl) ?_
    refine va_alen hx hb hK hP (7 + jx) 0 (m_row1 b r1 r2 g (cd (TOKb (nI jx)) true true) jx hjx) rfl (v := 0) rfl dX13_digest_27 ?_
    refine lv_icmp_ge (tgt := 51) hx hb dX13_digest_28 (by decide) (fun c_5 => ?_) (fun c_5 => absurd (by decide) c_5)
    refine lv_iload_n hx hb dX13_digest_51 rfl (lv_at hl 1 rfl) ?_
    have hcd : (cd (TOKb (nI jx)) true true) = (cd (TOKb (nI jx)) true true) := rfl
    have hP8 := hP.sub (ws' := [((b 0), .inr (15, [.int (cd (TOKb (nI jx)) true true), .ref (b 1), .ref (b 2), .int 0, .ref (b 3), .ref (b 4), .ref (b 5), .null, .ref (b 6), .int 0, .int 0, .int 0, .int 0, .int 0]))]) [0] rfl
    rw [hcd] at hP8
    exact W.iret (v := 7) hx hb hr (fun t ht hW => ⟨⟨7, (), rfl, (fun h => by first | rfl | (exact absurd (cd_0.mp h) (by simp [(TOK_j hjx rfl)]))), ⟨[.ref (b 1), .ref (b 2), .int 0, .ref (b 3), .ref (b 4), .ref (b 5), .null, .ref (b 6), .int 0, .int 0, .int 0, .int 0, .int 0], P_at ht hP8⟩⟩, hS.F ht⟩) hS.2.2 dX13_digest_52
  · have hB_4 : (TOKb x) = false := b2i_0 c_3
    refine lv_iconst (v := 0) hx hb dX13_digest_13 (by decide) ?_
    have hcd : (cd (TOKb x) true true) = (cd (TOKb x) true true) := rfl
    have hP8 := hP.sub (ws' := [((b 0), .inr (15, [.int (cd (TOKb x) true true), .ref (b 1), .ref (b 2), .int 0, .ref (b 3), .ref (b 4), .ref (b 5), .null, .ref (b 6), .int 0, .int 0, .int 0, .int 0, .int 0]))]) [0] rfl
    rw [hcd] at hP8
    exact W.iret (v := 0) hx hb hr (fun t ht hW => ⟨⟨0, (), rfl, (fun h => by first | rfl | (exact absurd (cd_0.mp h) (by simp [hB_4]))), ⟨[.ref (b 1), .ref (b 2), .int 0, .ref (b 3), .ref (b 4), .ref (b 5), .null, .ref (b 6), .int 0, .int 0, .int 0, .int 0, .int 0], P_at ht hP8⟩⟩, hS.F ht⟩) hS.2.2 dX13_digest_14
set_option maxHeartbeats 4000000 in
set_option maxRecDepth 100000 in
theorem c_X13_find (l : Launch) (dC : Nat → ClassId) (dI : Nat → Nat → Nat) (g : Nat → ClassId) (b : Nat → Nat) (r1 : Nat → Nat) (r2 : Nat → Nat) (x : Int32) (k : Int32) (th : Int32) (sz : Nat) : Met l yX13_find wsX13_find ({ frames := 3, cells := 0, slots := 0, locals := 63 }) (va_Pc [.ref (b 0), .int x, .int k] (PG (dC, dI) g (modW b r1 r2 g th) sz)) (va_Qi (fun (r : Int32) (_ : Unit) => (cd (TOKb x) true true) = 0 → r = -1) (fun (_ : Unit) t => ∃ fs : List Value, va_P (dC, dI) vwCl [(b 0, .inr (15, .int (cd (TOKb x) true true) :: fs))] t.heap) (va_A (modW b r1 r2 g th) sz)) 0 0 (va_A (modW b r1 r2 g th) sz) := by
  refine Met.ofW (cc := cX13_find) (maxL := 4) (ret := (some .int)) (by decide) rfl ?_
  intro p e s m args below meth c s₁ B hml hv
  obtain ⟨rfl, hsz, hP, hK, hD0, hG⟩ := hv
  have hx := B.exec
  have hb := B.bytes
  have hr := B.returns
  have hts := atoms_spec (ws := wsX13_find) B.pre
  have hown : s.vm.findClass RX13 = some m.cls := findClass_of_methodNamed B.named
  have hlocks := B.notSynchronized
  subst hsz
  have hD := hD0.self (sz := s.heap.size)
  generalize hAe : va_A (modW b r1 r2 g th) s.heap.size = A at hD hG ⊢
  have hA : ∀ q : Nat, s.heap.size ≤ q → A q := fun q h => by rw [← hAe]; exact Or.inr h
  have hS : va_S A s.heap s.heap [] := va_S.rf
  have hl := lv_entry ([.ref (b 0), .int x, .int k]) (n := 4) (Nat.le_of_ble_eq_true rfl)
  rw [lg_entry_eq]
  generalize (lg_sl ([.ref (b 0), .int x, .int k]) ++ List.replicate (4 - (lg_sl ([.ref (b 0), .int x, .int k])).length) Slot.unset).toArray = ls at hl ⊢
  have hl : lv_has ls 4 [(0, .ref (b 0)), (1, .int x), (2, .int k)] := hl
  have hf29 := hts (Cond.fieldLink RX13 29 "RunmergeOfficeModel" "tapes" "[[I") (by decide +kernel)
  have hiX13 : ∀ w ∈ u_ws RX13 TX13 14, w ∈ wsX13_find := by decide +kernel
  refine lv_aload_n hx hb dX13_find_0 rfl (lv_at hl 0 rfl) ?_
  refine lv_iload_n hx hb dX13_find_1 rfl (lv_at hl 1 rfl) ?_
  refine va_calli (va_runS (As := [.int x]) (rest := [.ref (b 0)]) ⟨hx, hb, hml, hown, hts⟩ (c_X13_isTape l dC dI g (modW b r1 r2 g th) x   s.heap.size) (va_cwS 1 hts gX13_find_X13_isTape rfl rfl rfl (by decide +kernel) ⟨Nat.le_of_ble_eq_true rfl, Nat.le_of_ble_eq_true rfl⟩) ⟨PG_blind, PG_call hK hG hS hP hD (A_all hD hA hS.1)⟩ rfl rfl hl.1 rfl (lv_room (Nat.le_of_ble_eq_true rfl)) dX13_find_2 ⟨Nat.le_of_ble_eq_true rfl, Nat.le_of_ble_eq_true rfl⟩) hS (fun q _ h => (A_all hD hA hS.1) q h) (A_all hD hA hS.1) (fun r_1 u_1 t_1 H_1 L_1 ht_1 hvm_1 hw_1 hB_1 hz_1 hk_1 hS => ?_)
  replace hB_1 := (show va_P (dC, dI) vwCl (modW b r1 r2 g th) t_1.heap from hB_1)
  rw [ht_1] at hB_1
  have hP := hB_1
  obtain rfl : r_1 = b2i (TOKb x) := hw_1
  refine lv_aload_n hx hb dX13_find_5 rfl (lv_at hl 0 rfl) ?_
  refine lv_iload_n hx hb dX13_find_6 rfl (lv_at hl 1 rfl) ?_
  refine va_calli (va_runV (As := [.int x]) (rest := [.int (b2i (TOKb x)), .ref (b 0)]) ⟨hx, hb, hml, hown, hts⟩ (c_X13_isUp l dC dI g b r1 r2 x th  H_1.size) (cwV 1 hts gX13_find_X13_isUp rfl rfl rfl (by decide +kernel) ⟨Nat.le_of_ble_eq_true rfl, Nat.le_of_ble_eq_true rfl⟩) ⟨PG_blind, va_recv hK hP (ci := 15) (q0 := 0) rfl (m_0 b r1 r2 g th), PG_call hK hG hS hP hD (A_all hD hA hS.1)⟩ rfl rfl hl.1 rfl (lv_room (Nat.le_of_ble_eq_true rfl)) dX13_find_7 ⟨Nat.le_of_ble_eq_true rfl, Nat.le_of_ble_eq_true rfl⟩) hS (fun q _ h => (A_all hD hA hS.1) q h) (A_all hD hA hS.1) (fun r_2 u_2 t_2 H_2 L_2 ht_2 hvm_2 hw_2 hB_2 hz_2 hk_2 hS => ?_)
  replace hB_2 := (show va_P (dC, dI) vwCl (modW b r1 r2 g th) t_2.heap from hB_2)
  rw [ht_2] at hB_2
  have hP := hB_2
  obtain rfl : r_2 = b2i (TOKb x) := hw_2
  refine lv_iconst (v := 1) hx hb dX13_find_10 (by decide) ?_
  refine va_calli (va_runV (As := [.int (b2i (TOKb x)), .int (b2i (TOKb x)), .int 1]) (rest := []) ⟨hx, hb, hml, hown, hts⟩ (c_X13_passes l dC dI g b r1 r2 th (TOKb x) (TOKb x) true  H_2.size) (cwV 3 hts gX13_find_X13_passes rfl rfl rfl (by decide +kernel) ⟨Nat.le_of_ble_eq_true rfl, Nat.le_of_ble_eq_true rfl⟩) ⟨PG_blind, va_recv hK hP (ci := 15) (q0 := 0) rfl (m_0 b r1 r2 g th), PG_call hK hG hS hP hD (A_all hD hA hS.1)⟩ rfl rfl hl.1 rfl (lv_room (Nat.le_of_ble_eq_true rfl)) dX13_find_11 ⟨Nat.le_of_ble_eq_true rfl, Nat.le_of_ble_eq_true rfl⟩) hS (fun q _ h => (A_all hD hA hS.1) q h) (A_all hD hA hS.1) (fun r_3 u_3 t_3 H_3 L_3 ht_3 hvm_3 hw_3 hB_3 hz_3 hk_3 hS => ?_)
  rw [ht_3] at hB_3
  have hP : va_P (dC, dI) vwCl (modW b r1 r2 g (cd (TOKb x) (TOKb x) true)) H_3 := hB_3
  have hD : va_D A (modW b r1 r2 g (cd (TOKb x) (TOKb x) true)) := va_D_th hD
  obtain rfl : r_3 = b2i (TOKb x) := hw_3.trans (by simp)
  refine lv_if_ne (tgt := 19) hx hb dX13_find_14 (by decide) (fun c_4 => ?_) (fun c_4 => ?_)
  · have hB_5 : (TOKb x) = true := b2i_1 c_4
    obtain ⟨jx, hjx, rfl⟩ := TOK_ex hB_5
    refine lv_iconst (v := 0) hx hb dX13_find_19 (by decide) ?_
    refine lv_istore_n (lv' := [(3, .int 0), (0, .ref (b 0)), (1, .int (nI jx)), (2, .int k)]) hx hb dX13_find_20 rfl hl (by decide) rfl (fun ls hl => ?_)
    refine lv_iload_n hx hb dX13_find_21 rfl (lv_at hl 0 rfl) ?_
    refine lv_aload_n hx hb dX13_find_22 rfl (lv_at hl 1 rfl) ?_
    refine va_get (D := (dC, dI)) (ci := 15) (v := .ref (b 3)) (C := RX13) (T := TX13) (N := 14) hx hb hts hiX13 hown hK hP 0 (m_0 b r1 r2 g (cd (TOKb (nI jx)) (TOKb (nI jx)) true)) rfl 4 (by decide) hf29 (fun _ h9 => h9) rfl dX13_find_23 ?_
    refine lv_iload_n hx hb dX13_find_26 rfl (lv_at hl 2 rfl) ?_
    refine va_aldA hx hb hK hP 3 (m_3 b r1 r2 g (cd (TOKb (nI jx)) (TOKb (nI jx)) true)) (vp_in_nI hjx (by decide)) dX13_find_27 ?_
    refine W.eq (g2 := F0 m 28 ls [.ref (r1 jx), .int 0]) (by rw [nI_clamp (show jx < 2 ^ 31 by omega)]; simp only [if_pos hjx]; rfl) ?_
    refine va_alen hx hb hK hP (7 + jx) 0 (m_row1 b r1 r2 g (cd (TOKb (nI jx)) (TOKb (nI jx)) true) jx hjx) rfl (v := 0) rfl dX13_find_28 ?_
    refine lv_icmp_ge (tgt := 57) hx hb dX13_find_29 (by decide) (fun c_6 => ?_) (fun c_6 => absurd (by decide) c_6)
    refine lv_iconst (v := (-1)) hx hb dX13_find_57 (by decide) ?_
    have hcd : (cd (TOKb (nI jx)) (TOKb (nI jx)) true) = (cd (TOKb (nI jx)) true true) := by simp [cd, (TOK_j hjx rfl)]
    have hP8 := hP.sub (ws' := [((b 0), .inr (15, [.int (cd (TOKb (nI jx)) (TOKb (nI jx)) true), .ref (b 1), .ref (b 2), .int 0, .ref (b 3), .ref (b 4), .ref (b 5), .null, .ref (b 6), .int 0, .int 0, .int 0, .int 0, .int 0]))]) [0] rfl
    rw [hcd] at hP8
    exact W.iret (v := (-1)) hx hb hr (fun t ht hW => ⟨⟨(-1), (), rfl, (fun h => by first | rfl | (exact absurd (cd_0.mp h) (by simp [(TOK_j hjx rfl)]))), ⟨[.ref (b 1), .ref (b 2), .int 0, .ref (b 3), .ref (b 4), .ref (b 5), .null, .ref (b 6), .int 0, .int 0, .int 0, .int 0, .int 0], P_at ht hP8⟩⟩, hS.F ht⟩) hS.2.2 dX13_find_58
  · have hB_5 : (TOKb x) = false := b2i_0 c_4
    refine lv_iconst (v := 0) hx hb dX13_find_17 (by decide) ?_
    have hcd : (cd (TOKb x) (TOKb x) true) = (cd (TOKb x) true true) := by simp [cd, hB_5]
    have hP8 := hP.sub (ws' := [((b 0), .inr (15, [.int (cd (TOKb x) (TOKb x) true), .ref (b 1), .ref (b 2), .int 0, .ref (b 3), .ref (b 4), .ref (b 5), .null, .ref (b 6), .int 0, .int 0, .int 0, .int 0, .int 0]))]) [0] rfl
    rw [hcd] at hP8
    exact W.iret (v := 0) hx hb hr (fun t ht hW => ⟨⟨0, (), rfl, (fun h => by first | rfl | (exact absurd (cd_0.mp h) (by simp [hB_5]))), ⟨[.ref (b 1), .ref (b 2), .int 0, .ref (b 3), .ref (b 4), .ref (b 5), .null, .ref (b 6), .int 0, .int 0, .int 0, .int 0, .int 0], P_at ht hP8⟩⟩, hS.F ht⟩) hS.2.2 dX13_find_18
set_option maxHeartbeats 4000000 in
set_option maxRecDepth 100000 in
theorem c_X13_between (l : Launch) (dC : Nat → ClassId) (dI : Nat → Nat → Nat) (g : Nat → ClassId) (b : Nat → Nat) (r1 : Nat → Nat) (r2 : Nat → Nat) (x : Int32) (k : Int32) (k2 : Int32) (th : Int32) (sz : Nat) : Met l yX13_between wsX13_between ({ frames := 3, cells := 0, slots := 0, locals := 63 }) (va_Pc [.ref (b 0), .int x, .int k, .int k2] (PG (dC, dI) g (modW b r1 r2 g th) sz)) (va_Qi (fun (r : Int32) (_ : Unit) => (cd (TOKb x) true true) = 0 → r = 0) (fun (_ : Unit) t => ∃ fs : List Value, va_P (dC, dI) vwCl [(b 0, .inr (15, .int (cd (TOKb x) true true) :: fs))] t.heap) (va_A (modW b r1 r2 g th) sz)) 0 0 (va_A (modW b r1 r2 g th) sz) := by
  refine Met.ofW (cc := cX13_between) (maxL := 6) (ret := (some .int)) (by decide) rfl ?_
  intro p e s m args below meth c s₁ B hml hv
  obtain ⟨rfl, hsz, hP, hK, hD0, hG⟩ := hv
  have hx := B.exec
  have hb := B.bytes
  have hr := B.returns
  have hts := atoms_spec (ws := wsX13_between) B.pre
  have hown : s.vm.findClass RX13 = some m.cls := findClass_of_methodNamed B.named
  have hlocks := B.notSynchronized
  subst hsz
  have hD := hD0.self (sz := s.heap.size)
  generalize hAe : va_A (modW b r1 r2 g th) s.heap.size = A at hD hG ⊢
  have hA : ∀ q : Nat, s.heap.size ≤ q → A q := fun q h => by rw [← hAe]; exact Or.inr h
  have hS : va_S A s.heap s.heap [] := va_S.rf
  have hl := lv_entry ([.ref (b 0), .int x, .int k, .int k2]) (n := 6) (Nat.le_of_ble_eq_true rfl)
  rw [lg_entry_eq]
  generalize (lg_sl ([.ref (b 0), .int x, .int k, .int k2]) ++ List.replicate (6 - (lg_sl ([.ref (b 0), .int x, .int k, .int k2])).length) Slot.unset).toArray = ls at hl ⊢
  have hl : lv_has ls 6 [(0, .ref (b 0)), (1, .int x), (2, .int k), (3, .int k2)] := hl
  have hf29 := hts (Cond.fieldLink RX13 29 "RunmergeOfficeModel" "tapes" "[[I") (by decide +kernel)
  have hiX13 : ∀ w ∈ u_ws RX13 TX13 14, w ∈ wsX13_between := by decide +kernel
  refine lv_aload_n hx hb dX13_between_0 rfl (lv_at hl 0 rfl) ?_
  refine lv_iload_n hx hb dX13_between_1 rfl (lv_at hl 1 rfl) ?_
  refine va_calli (va_runS (As := [.int x]) (rest := [.ref (b 0)]) ⟨hx, hb, hml, hown, hts⟩ (c_X13_isTape l dC dI g (modW b r1 r2 g th) x   s.heap.size) (va_cwS 1 hts gX13_between_X13_isTape rfl rfl rfl (by decide +kernel) ⟨Nat.le_of_ble_eq_true rfl, Nat.le_of_ble_eq_true rfl⟩) ⟨PG_blind, PG_call hK hG hS hP hD (A_all hD hA hS.1)⟩ rfl rfl hl.1 rfl (lv_room (Nat.le_of_ble_eq_true rfl)) dX13_between_2 ⟨Nat.le_of_ble_eq_true rfl, Nat.le_of_ble_eq_true rfl⟩) hS (fun q _ h => (A_all hD hA hS.1) q h) (A_all hD hA hS.1) (fun r_1 u_1 t_1 H_1 L_1 ht_1 hvm_1 hw_1 hB_1 hz_1 hk_1 hS => ?_)
  replace hB_1 := (show va_P (dC, dI) vwCl (modW b r1 r2 g th) t_1.heap from hB_1)
  rw [ht_1] at hB_1
  have hP := hB_1
  obtain rfl : r_1 = b2i (TOKb x) := hw_1
  refine lv_aload_n hx hb dX13_between_5 rfl (lv_at hl 0 rfl) ?_
  refine lv_iload_n hx hb dX13_between_6 rfl (lv_at hl 1 rfl) ?_
  refine va_calli (va_runV (As := [.int x]) (rest := [.int (b2i (TOKb x)), .ref (b 0)]) ⟨hx, hb, hml, hown, hts⟩ (c_X13_isUp l dC dI g b r1 r2 x th  H_1.size) (cwV 1 hts gX13_between_X13_isUp rfl rfl rfl (by decide +kernel) ⟨Nat.le_of_ble_eq_true rfl, Nat.le_of_ble_eq_true rfl⟩) ⟨PG_blind, va_recv hK hP (ci := 15) (q0 := 0) rfl (m_0 b r1 r2 g th), PG_call hK hG hS hP hD (A_all hD hA hS.1)⟩ rfl rfl hl.1 rfl (lv_room (Nat.le_of_ble_eq_true rfl)) dX13_between_7 ⟨Nat.le_of_ble_eq_true rfl, Nat.le_of_ble_eq_true rfl⟩) hS (fun q _ h => (A_all hD hA hS.1) q h) (A_all hD hA hS.1) (fun r_2 u_2 t_2 H_2 L_2 ht_2 hvm_2 hw_2 hB_2 hz_2 hk_2 hS => ?_)
  replace hB_2 := (show va_P (dC, dI) vwCl (modW b r1 r2 g th) t_2.heap from hB_2)
  rw [ht_2] at hB_2
  have hP := hB_2
  obtain rfl : r_2 = b2i (TOKb x) := hw_2
  refine lv_iconst (v := 1) hx hb dX13_between_10 (by decide) ?_
  refine va_calli (va_runV (As := [.int (b2i (TOKb x)), .int (b2i (TOKb x)), .int 1]) (rest := []) ⟨hx, hb, hml, hown, hts⟩ (c_X13_passes l dC dI g b r1 r2 th (TOKb x) (TOKb x) true  H_2.size) (cwV 3 hts gX13_between_X13_passes rfl rfl rfl (by decide +kernel) ⟨Nat.le_of_ble_eq_true rfl, Nat.le_of_ble_eq_true rfl⟩) ⟨PG_blind, va_recv hK hP (ci := 15) (q0 := 0) rfl (m_0 b r1 r2 g th), PG_call hK hG hS hP hD (A_all hD hA hS.1)⟩ rfl rfl hl.1 rfl (lv_room (Nat.le_of_ble_eq_true rfl)) dX13_between_11 ⟨Nat.le_of_ble_eq_true rfl, Nat.le_of_ble_eq_true rfl⟩) hS (fun q _ h => (A_all hD hA hS.1) q h) (A_all hD hA hS.1) (fun r_3 u_3 t_3 H_3 L_3 ht_3 hvm_3 hw_3 hB_3 hz_3 hk_3 hS => ?_)
  rw [ht_3] at hB_3
  have hP : va_P (dC, dI) vwCl (modW b r1 r2 g (cd (TOKb x) (TOKb x) true)) H_3 := hB_3
  have hD : va_D A (modW b r1 r2 g (cd (TOKb x) (TOKb x) true)) := va_D_th hD
  obtain rfl : r_3 = b2i (TOKb x) := hw_3.trans (by simp)
  refine lv_if_ne (tgt := 19) hx hb dX13_between_14 (by decide) (fun c_4 => ?_) (fun c_4 => ?_)
  · have hB_5 : (TOKb x) = true := b2i_1 c_4
    obtain ⟨jx, hjx, rfl⟩ := TOK_ex hB_5
    refine lv_iconst (v := 0) hx hb dX13_between_19 (by decide) ?_
    refine lv_istore (lv' := [(4, .int 0), (0, .ref (b 0)), (1, .int (nI jx)), (2, .int k), (3, .int k2)]) hx hb dX13_between_20 hl (by decide) rfl (fun ls hl => ?_)
    refine lv_iconst (v := 0) hx hb dX13_between_22 (by decide) ?_
    refine lv_istore (lv' := [(5, .int 0), (4, .int 0), (0, .ref (b 0)), (1, .int (nI jx)), (2, .int k), (3, .int k2)]) hx hb dX13_between_23 hl (by decide) rfl (fun ls hl => ?_)
    refine lv_iload hx hb dX13_between_25 (lv_at hl 0 rfl) ?_
    refine lv_aload_n hx hb dX13_between_27 rfl (lv_at hl 2 rfl) ?_
    refine va_get (D := (dC, dI)) (ci := 15) (v := .ref (b 3)) (C := RX13) (T := TX13) (N := 14) hx hb hts hiX13 hown hK hP 0 (m_0 b r1 r2 g (cd (TOKb (nI jx)) (TOKb (nI jx)) true)) rfl 4 (by decide) hf29 (fun _ h9 => h9) rfl dX13_between_28 ?_
    refine lv_iload_n hx hb dX13_between_31 rfl (lv_at hl 3 rfl) ?_
    refine va_aldA hx hb hK hP 3 (m_3 b r1 r2 g (cd (TOKb (nI jx)) (TOKb (nI jx)) true)) (vp_in_nI hjx (by decide)) dX13_between_32 ?_
    refine W.eq (g2 := F0 m 33 ls [.ref (r1 jx), .int 0]) (by rw [nI_clamp (show jx < 2 ^ 31 by omega)]; simp only [if_pos hjx]; rfl) ?_
    refine va_alen hx hb hK hP (7 + jx) 0 (m_row1 b r1 r2 g (cd (TOKb (nI jx)) (TOKb (nI jx)) true) jx hjx) rfl (v := 0) rfl dX13_between_33 ?_
    refine lv_icmp_ge (tgt := 75) hx hb dX13_between_34 (by decide) (fun c_6 => ?_) (fun c_6 => absurd (by decide) c_6)
    refine lv_iload hx hb dX13_between_75 (lv_at hl 1 rfl) ?_
    have hcd : (cd (TOKb (nI jx)) (TOKb (nI jx)) true) = (cd (TOKb (nI jx)) true true) := by simp [cd, (TOK_j hjx rfl)]
    have hP8 := hP.sub (ws' := [((b 0), .inr (15, [.int (cd (TOKb (nI jx)) (TOKb (nI jx)) true), .ref (b 1), .ref (b 2), .int 0, .ref (b 3), .ref (b 4), .ref (b 5), .null, .ref (b 6), .int 0, .int 0, .int 0, .int 0, .int 0]))]) [0] rfl
    rw [hcd] at hP8
    exact W.iret (v := 0) hx hb hr (fun t ht hW => ⟨⟨0, (), rfl, (fun h => by first | rfl | (exact absurd (cd_0.mp h) (by simp [(TOK_j hjx rfl)]))), ⟨[.ref (b 1), .ref (b 2), .int 0, .ref (b 3), .ref (b 4), .ref (b 5), .null, .ref (b 6), .int 0, .int 0, .int 0, .int 0, .int 0], P_at ht hP8⟩⟩, hS.F ht⟩) hS.2.2 dX13_between_77
  · have hB_5 : (TOKb x) = false := b2i_0 c_4
    refine lv_iconst (v := 0) hx hb dX13_between_17 (by decide) ?_
    have hcd : (cd (TOKb x) (TOKb x) true) = (cd (TOKb x) true true) := by simp [cd, hB_5]
    have hP8 := hP.sub (ws' := [((b 0), .inr (15, [.int (cd (TOKb x) (TOKb x) true), .ref (b 1), .ref (b 2), .int 0, .ref (b 3), .ref (b 4), .ref (b 5), .null, .ref (b 6), .int 0, .int 0, .int 0, .int 0, .int 0]))]) [0] rfl
    rw [hcd] at hP8
    exact W.iret (v := 0) hx hb hr (fun t ht hW => ⟨⟨0, (), rfl, (fun h => by first | rfl | (exact absurd (cd_0.mp h) (by simp [hB_5]))), ⟨[.ref (b 1), .ref (b 2), .int 0, .ref (b 3), .ref (b 4), .ref (b 5), .null, .ref (b 6), .int 0, .int 0, .int 0, .int 0, .int 0], P_at ht hP8⟩⟩, hS.F ht⟩) hS.2.2 dX13_between_18
set_option maxHeartbeats 4000000 in
set_option maxRecDepth 100000 in
theorem c_X13_isSorted (l : Launch) (dC : Nat → ClassId) (dI : Nat → Nat → Nat) (g : Nat → ClassId) (b : Nat → Nat) (r1 : Nat → Nat) (r2 : Nat → Nat) (x : Int32) (od : Int32) (th : Int32) (sz : Nat) : Met l yX13_isSorted wsX13_isSorted ({ frames := 2, cells := 0, slots := 0, locals := 42 }) (va_Pc [.ref (b 0), .int x, .int od] (PG (dC, dI) g (modW b r1 r2 g th) sz)) (va_Qi (fun (r : Int32) (_ : Unit) => (cd (TOKb x) (rngb od 0 1) true) = 0 → r = 1) (fun (_ : Unit) t => ∃ fs : List Value, va_P (dC, dI) vwCl [(b 0, .inr (15, .int (cd (TOKb x) (rngb od 0 1) true) :: fs))] t.heap) (va_A (modW b r1 r2 g th) sz)) 0 0 (va_A (modW b r1 r2 g th) sz) := by
  refine Met.ofW (cc := cX13_isSorted) (maxL := 3) (ret := (some .boolean)) (by decide) rfl ?_
  intro p e s m args below meth c s₁ B hml hv
  obtain ⟨rfl, hsz, hP, hK, hD0, hG⟩ := hv
  have hx := B.exec
  have hb := B.bytes
  have hr := B.returns
  have hts := atoms_spec (ws := wsX13_isSorted) B.pre
  have hown : s.vm.findClass RX13 = some m.cls := findClass_of_methodNamed B.named
  have hlocks := B.notSynchronized
  subst hsz
  have hD := hD0.self (sz := s.heap.size)
  generalize hAe : va_A (modW b r1 r2 g th) s.heap.size = A at hD hG ⊢
  have hA : ∀ q : Nat, s.heap.size ≤ q → A q := fun q h => by rw [← hAe]; exact Or.inr h
  have hS : va_S A s.heap s.heap [] := va_S.rf
  have hl := lv_entry ([.ref (b 0), .int x, .int od]) (n := 3) (Nat.le_of_ble_eq_true rfl)
  rw [lg_entry_eq]
  generalize (lg_sl ([.ref (b 0), .int x, .int od]) ++ List.replicate (3 - (lg_sl ([.ref (b 0), .int x, .int od])).length) Slot.unset).toArray = ls at hl ⊢
  have hl : lv_has ls 3 [(0, .ref (b 0)), (1, .int x), (2, .int od)] := hl
  have hf29 := hts (Cond.fieldLink RX13 29 "RunmergeOfficeModel" "tapes" "[[I") (by decide +kernel)
  have hiX13 : ∀ w ∈ u_ws RX13 TX13 14, w ∈ wsX13_isSorted := by decide +kernel
  refine lv_aload_n hx hb dX13_isSorted_0 rfl (lv_at hl 0 rfl) ?_
  refine lv_iload_n hx hb dX13_isSorted_1 rfl (lv_at hl 1 rfl) ?_
  refine va_calli (va_runS (As := [.int x]) (rest := [.ref (b 0)]) ⟨hx, hb, hml, hown, hts⟩ (c_X13_isTape l dC dI g (modW b r1 r2 g th) x   s.heap.size) (va_cwS 1 hts gX13_isSorted_X13_isTape rfl rfl rfl (by decide +kernel) ⟨Nat.le_of_ble_eq_true rfl, Nat.le_of_ble_eq_true rfl⟩) ⟨PG_blind, PG_call hK hG hS hP hD (A_all hD hA hS.1)⟩ rfl rfl hl.1 rfl (lv_room (Nat.le_of_ble_eq_true rfl)) dX13_isSorted_2 ⟨Nat.le_of_ble_eq_true rfl, Nat.le_of_ble_eq_true rfl⟩) hS (fun q _ h => (A_all hD hA hS.1) q h) (A_all hD hA hS.1) (fun r_1 u_1 t_1 H_1 L_1 ht_1 hvm_1 hw_1 hB_1 hz_1 hk_1 hS => ?_)
  replace hB_1 := (show va_P (dC, dI) vwCl (modW b r1 r2 g th) t_1.heap from hB_1)
  rw [ht_1] at hB_1
  have hP := hB_1
  obtain rfl : r_1 = b2i (TOKb x) := hw_1
  refine lv_iload_n hx hb dX13_isSorted_5 rfl (lv_at hl 2 rfl) ?_
  refine lv_iconst (v := 0) hx hb dX13_isSorted_6 (by decide) ?_
  refine lv_iconst (v := 1) hx hb dX13_isSorted_7 (by decide) ?_
  refine va_calli (va_runS (As := [.int od, .int 0, .int 1]) (rest := [.int (b2i (TOKb x)), .ref (b 0)]) ⟨hx, hb, hml, hown, hts⟩ (c_X13_in l dC dI g (modW b r1 r2 g th) od 0 1   H_1.size) (va_cwS 3 hts gX13_isSorted_X13_in rfl rfl rfl (by decide +kernel) ⟨Nat.le_of_ble_eq_true rfl, Nat.le_of_ble_eq_true rfl⟩) ⟨PG_blind, PG_call hK hG hS hP hD (A_all hD hA hS.1)⟩ rfl rfl hl.1 rfl (lv_room (Nat.le_of_ble_eq_true rfl)) dX13_isSorted_8 ⟨Nat.le_of_ble_eq_true rfl, Nat.le_of_ble_eq_true rfl⟩) hS (fun q _ h => (A_all hD hA hS.1) q h) (A_all hD hA hS.1) (fun r_2 u_2 t_2 H_2 L_2 ht_2 hvm_2 hw_2 hB_2 hz_2 hk_2 hS => ?_)
  replace hB_2 := (show va_P (dC, dI) vwCl (modW b r1 r2 g th) t_2.heap from hB_2)
  rw [ht_2] at hB_2
  have hP := hB_2
  obtain rfl : r_2 = b2i (rngb od 0 1) := hw_2
  refine lv_iconst (v := 1) hx hb dX13_isSorted_11 (by decide) ?_
  refine va_calli (va_runV (As := [.int (b2i (TOKb x)), .int (b2i (rngb od 0 1)), .int 1]) (rest := []) ⟨hx, hb, hml, hown, hts⟩ (c_X13_passes l dC dI g b r1 r2 th (TOKb x) (rngb od 0 1) true  H_2.size) (cwV 3 hts gX13_isSorted_X13_passes rfl rfl rfl (by decide +kernel) ⟨Nat.le_of_ble_eq_true rfl, Nat.le_of_ble_eq_true rfl⟩) ⟨PG_blind, va_recv hK hP (ci := 15) (q0 := 0) rfl (m_0 b r1 r2 g th), PG_call hK hG hS hP hD (A_all hD hA hS.1)⟩ rfl rfl hl.1 rfl (lv_room (Nat.le_of_ble_eq_true rfl)) dX13_isSorted_12 ⟨Nat.le_of_ble_eq_true rfl, Nat.le_of_ble_eq_true rfl⟩) hS (fun q _ h => (A_all hD hA hS.1) q h) (A_all hD hA hS.1) (fun r_3 u_3 t_3 H_3 L_3 ht_3 hvm_3 hw_3 hB_3 hz_3 hk_3 hS => ?_)
  rw [ht_3] at hB_3
  have hP : va_P (dC, dI) vwCl (modW b r1 r2 g (cd (TOKb x) (rngb od 0 1) true)) H_3 := hB_3
  have hD : va_D A (modW b r1 r2 g (cd (TOKb x) (rngb od 0 1) true)) := va_D_th hD
  obtain rfl : r_3 = b2i (TOKb x && rngb od 0 1) := hw_3.trans (by simp)
  refine lv_if_eq (tgt := 36) hx hb dX13_isSorted_15 (by decide) (fun c_4 => ?_) (fun c_4 => ?_)
  · have hB_5 : (TOKb x && rngb od 0 1) = false := b2i_0 c_4
    refine lv_iconst (v := 0) hx hb dX13_isSorted_36 (by decide) ?_
    have hcd : (cd (TOKb x) (rngb od 0 1) true) = (cd (TOKb x) (rngb od 0 1) true) := rfl
    have hP8 := hP.sub (ws' := [((b 0), .inr (15, [.int (cd (TOKb x) (rngb od 0 1) true), .ref (b 1), .ref (b 2), .int 0, .ref (b 3), .ref (b 4), .ref (b 5), .null, .ref (b 6), .int 0, .int 0, .int 0, .int 0, .int 0]))]) [0] rfl
    rw [hcd] at hP8
    exact W.zret (v := 0) hx hb hr rfl (fun t ht hW => ⟨⟨0, (), rfl, (fun h => by first | rfl | (exact absurd (cd_0.mp h) (by simp [hB_5]))), ⟨[.ref (b 1), .ref (b 2), .int 0, .ref (b 3), .ref (b 4), .ref (b 5), .null, .ref (b 6), .int 0, .int 0, .int 0, .int 0, .int 0], P_at ht hP8⟩⟩, hS.F ht⟩) hS.2.2 dX13_isSorted_37
  · have hB_5 : (TOKb x && rngb od 0 1) = true := b2i_1 c_4
    obtain ⟨jx, hjx, rfl⟩ := TOK_ex (x := x) (by have h := hB_5; simp only [Bool.and_eq_true] at h; first | exact h.1 | exact h.2 | exact h.1.1 | exact h.1.2)
    refine lv_aload_n hx hb dX13_isSorted_18 rfl (lv_at hl 0 rfl) ?_
    refine lv_aload_n hx hb dX13_isSorted_19 rfl (lv_at hl 0 rfl) ?_
    refine va_get (D := (dC, dI)) (ci := 15) (v := .ref (b 3)) (C := RX13) (T := TX13) (N := 14) hx hb hts hiX13 hown hK hP 0 (m_0 b r1 r2 g (cd (TOKb (nI jx)) (rngb od 0 1) true)) rfl 4 (by decide) hf29 (fun _ h9 => h9) rfl dX13_isSorted_20 ?_
    refine lv_iload_n hx hb dX13_isSorted_23 rfl (lv_at hl 1 rfl) ?_
    refine va_aldA hx hb hK hP 3 (m_3 b r1 r2 g (cd (TOKb (nI jx)) (rngb od 0 1) true)) (vp_in_nI hjx (by decide)) dX13_isSorted_24 ?_
    refine W.eq (g2 := F0 m 25 ls [.ref (r1 jx), .ref (b 0)]) (by rw [nI_clamp (show jx < 2 ^ 31 by omega)]; simp only [if_pos hjx]; rfl) ?_
    refine lv_iload_n hx hb dX13_isSorted_25 rfl (lv_at hl 2 rfl) ?_
    refine va_calli (va_runV (As := [.ref (r1 jx), .int od]) (rest := []) ⟨hx, hb, hml, hown, hts⟩ (c_X13_isInOrder l dC dI g (modW b r1 r2 g (cd (TOKb (nI jx)) (rngb od 0 1) true)) (b 0) (r1 jx) od (fun _ => 0) (7 + jx) (m_row1 b r1 r2 g (cd (TOKb (nI jx)) (rngb od 0 1) true) jx hjx)  H_3.size) (cwV 2 hts gX13_isSorted_X13_isInOrder rfl rfl rfl (by decide +kernel) ⟨Nat.le_of_ble_eq_true rfl, Nat.le_of_ble_eq_true rfl⟩) ⟨PG_blind, va_recv hK hP (ci := 15) (q0 := 0) rfl (m_0 b r1 r2 g (cd (TOKb (nI jx)) (rngb od 0 1) true)), PG_call hK hG hS hP hD (A_all hD hA hS.1)⟩ rfl rfl hl.1 rfl (lv_room (Nat.le_of_ble_eq_true rfl)) dX13_isSorted_26 ⟨Nat.le_of_ble_eq_true rfl, Nat.le_of_ble_eq_true rfl⟩) hS (fun q _ h => (A_all hD hA hS.1) q h) (A_all hD hA hS.1) (fun r_6 u_6 t_6 H_6 L_6 ht_6 hvm_6 hw_6 hB_6 hz_6 hk_6 hS => ?_)
    replace hB_6 := (show va_P (dC, dI) vwCl (modW b r1 r2 g (cd (TOKb (nI jx)) (rngb od 0 1) true)) t_6.heap from hB_6)
    rw [ht_6] at hB_6
    have hP := hB_6
    obtain rfl : r_6 = 1 := hw_6
    refine lv_if_eq (tgt := 36) hx hb dX13_isSorted_29 (by decide) (fun c_7 => absurd c_7 (by decide)) (fun c_7 => ?_)
    refine lv_iconst (v := 1) hx hb dX13_isSorted_32 (by decide) ?_
    refine lv_goto (tgt := 37) hx hb dX13_isSorted_33 (by decide) ?_
    have hcd : (cd (TOKb (nI jx)) (rngb od 0 1) true) = (cd (TOKb (nI jx)) (rngb od 0 1) true) := rfl
    have hP8 := hP.sub (ws' := [((b 0), .inr (15, [.int (cd (TOKb (nI jx)) (rngb od 0 1) true), .ref (b 1), .ref (b 2), .int 0, .ref (b 3), .ref (b 4), .ref (b 5), .null, .ref (b 6), .int 0, .int 0, .int 0, .int 0, .int 0]))]) [0] rfl
    rw [hcd] at hP8
    exact W.zret (v := 1) hx hb hr rfl (fun t ht hW => ⟨⟨1, (), rfl, (fun h => by first | rfl | (exact absurd (cd_0.mp h) (by simp [hB_5, (TOK_j hjx rfl)]))), ⟨[.ref (b 1), .ref (b 2), .int 0, .ref (b 3), .ref (b 4), .ref (b 5), .null, .ref (b 6), .int 0, .int 0, .int 0, .int 0, .int 0], P_at ht hP8⟩⟩, hS.F ht⟩) hS.2.2 dX13_isSorted_37
set_option maxHeartbeats 4000000 in
set_option maxRecDepth 100000 in
theorem c_X13_floor (l : Launch) (dC : Nat → ClassId) (dI : Nat → Nat → Nat) (g : Nat → ClassId) (b : Nat → Nat) (r1 : Nat → Nat) (r2 : Nat → Nat) (x : Int32) (k : Int32) (th : Int32) (sz : Nat) : Met l yX13_floor wsX13_floor ({ frames := 3, cells := 0, slots := 0, locals := 63 }) (va_Pc [.ref (b 0), .int x, .int k] (PG (dC, dI) g (modW b r1 r2 g th) sz)) (va_Qi (fun (_ : Int32) (_ : Unit) => True) (fun (_ : Unit) t => ∃ fs : List Value, va_P (dC, dI) vwCl [(b 0, .inr (15, .int (cd (TOKb x) true false) :: fs))] t.heap) (va_A (modW b r1 r2 g th) sz)) 0 0 (va_A (modW b r1 r2 g th) sz) := by
  refine Met.ofW (cc := cX13_floor) (maxL := 7) (ret := (some .int)) (by decide) rfl ?_
  intro p e s m args below meth c s₁ B hml hv
  obtain ⟨rfl, hsz, hP, hK, hD0, hG⟩ := hv
  have hx := B.exec
  have hb := B.bytes
  have hr := B.returns
  have hts := atoms_spec (ws := wsX13_floor) B.pre
  have hown : s.vm.findClass RX13 = some m.cls := findClass_of_methodNamed B.named
  have hlocks := B.notSynchronized
  subst hsz
  have hD := hD0.self (sz := s.heap.size)
  generalize hAe : va_A (modW b r1 r2 g th) s.heap.size = A at hD hG ⊢
  have hA : ∀ q : Nat, s.heap.size ≤ q → A q := fun q h => by rw [← hAe]; exact Or.inr h
  have hS : va_S A s.heap s.heap [] := va_S.rf
  have hl := lv_entry ([.ref (b 0), .int x, .int k]) (n := 7) (Nat.le_of_ble_eq_true rfl)
  rw [lg_entry_eq]
  generalize (lg_sl ([.ref (b 0), .int x, .int k]) ++ List.replicate (7 - (lg_sl ([.ref (b 0), .int x, .int k])).length) Slot.unset).toArray = ls at hl ⊢
  have hl : lv_has ls 7 [(0, .ref (b 0)), (1, .int x), (2, .int k)] := hl
  have hf29 := hts (Cond.fieldLink RX13 29 "RunmergeOfficeModel" "tapes" "[[I") (by decide +kernel)
  have hiX13 : ∀ w ∈ u_ws RX13 TX13 14, w ∈ wsX13_floor := by decide +kernel
  refine lv_iconst (v := 0) hx hb dX13_floor_0 (by decide) ?_
  refine lv_istore_n (lv' := [(3, .int 0), (0, .ref (b 0)), (1, .int x), (2, .int k)]) hx hb dX13_floor_1 rfl hl (by decide) rfl (fun ls hl => ?_)
  refine lv_iconst (v := 0) hx hb dX13_floor_2 (by decide) ?_
  refine lv_istore (lv' := [(4, .int 0), (3, .int 0), (0, .ref (b 0)), (1, .int x), (2, .int k)]) hx hb dX13_floor_3 hl (by decide) rfl (fun ls hl => ?_)
  refine lv_iconst (v := 0) hx hb dX13_floor_5 (by decide) ?_
  refine lv_istore (lv' := [(5, .int 0), (4, .int 0), (3, .int 0), (0, .ref (b 0)), (1, .int x), (2, .int k)]) hx hb dX13_floor_6 hl (by decide) rfl (fun ls hl => ?_)
  refine lv_iload_n hx hb dX13_floor_8 rfl (lv_at hl 4 rfl) ?_
  refine va_calli (va_runS (As := [.int x]) (rest := []) ⟨hx, hb, hml, hown, hts⟩ (c_X13_isTape l dC dI g (modW b r1 r2 g th) x   s.heap.size) (va_cwS 1 hts gX13_floor_X13_isTape rfl rfl rfl (by decide +kernel) ⟨Nat.le_of_ble_eq_true rfl, Nat.le_of_ble_eq_true rfl⟩) ⟨PG_blind, PG_call hK hG hS hP hD (A_all hD hA hS.1)⟩ rfl rfl hl.1 rfl (lv_room (Nat.le_of_ble_eq_true rfl)) dX13_floor_9 ⟨Nat.le_of_ble_eq_true rfl, Nat.le_of_ble_eq_true rfl⟩) hS (fun q _ h => (A_all hD hA hS.1) q h) (A_all hD hA hS.1) (fun r_1 u_1 t_1 H_1 L_1 ht_1 hvm_1 hw_1 hB_1 hz_1 hk_1 hS => ?_)
  replace hB_1 := (show va_P (dC, dI) vwCl (modW b r1 r2 g th) t_1.heap from hB_1)
  rw [ht_1] at hB_1
  have hP := hB_1
  obtain rfl : r_1 = b2i (TOKb x) := hw_1
  refine lv_if_eq (tgt := 89) hx hb dX13_floor_12 (by decide) (fun c_2 => ?_) (fun c_2 => ?_)
  · have hB_3 : (TOKb x) = false := b2i_0 c_2
    refine lv_aload_n hx hb dX13_floor_89 rfl (lv_at hl 3 rfl) ?_
    refine lv_iload_n hx hb dX13_floor_90 rfl (lv_at hl 4 rfl) ?_
    refine va_calli (va_runS (As := [.int x]) (rest := [.ref (b 0)]) ⟨hx, hb, hml, hown, hts⟩ (c_X13_isTape l dC dI g (modW b r1 r2 g th) x   H_1.size) (va_cwS 1 hts gX13_floor_X13_isTape rfl rfl rfl (by decide +kernel) ⟨Nat.le_of_ble_eq_true rfl, Nat.le_of_ble_eq_true rfl⟩) ⟨PG_blind, PG_call hK hG hS hP hD (A_all hD hA hS.1)⟩ rfl rfl hl.1 rfl (lv_room (Nat.le_of_ble_eq_true rfl)) dX13_floor_91 ⟨Nat.le_of_ble_eq_true rfl, Nat.le_of_ble_eq_true rfl⟩) hS (fun q _ h => (A_all hD hA hS.1) q h) (A_all hD hA hS.1) (fun r_4 u_4 t_4 H_4 L_4 ht_4 hvm_4 hw_4 hB_4 hz_4 hk_4 hS => ?_)
    replace hB_4 := (show va_P (dC, dI) vwCl (modW b r1 r2 g th) t_4.heap from hB_4)
    rw [ht_4] at hB_4
    have hP := hB_4
    obtain rfl : r_4 = b2i (TOKb x) := hw_4
    refine lv_aload_n hx hb dX13_floor_94 rfl (lv_at hl 3 rfl) ?_
    refine lv_iload_n hx hb dX13_floor_95 rfl (lv_at hl 4 rfl) ?_
    refine va_calli (va_runV (As := [.int x]) (rest := [.int (b2i (TOKb x)), .ref (b 0)]) ⟨hx, hb, hml, hown, hts⟩ (c_X13_isUp l dC dI g b r1 r2 x th  H_4.size) (cwV 1 hts gX13_floor_X13_isUp rfl rfl rfl (by decide +kernel) ⟨Nat.le_of_ble_eq_true rfl, Nat.le_of_ble_eq_true rfl⟩) ⟨PG_blind, va_recv hK hP (ci := 15) (q0 := 0) rfl (m_0 b r1 r2 g th), PG_call hK hG hS hP hD (A_all hD hA hS.1)⟩ rfl rfl hl.1 rfl (lv_room (Nat.le_of_ble_eq_true rfl)) dX13_floor_96 ⟨Nat.le_of_ble_eq_true rfl, Nat.le_of_ble_eq_true rfl⟩) hS (fun q _ h => (A_all hD hA hS.1) q h) (A_all hD hA hS.1) (fun r_5 u_5 t_5 H_5 L_5 ht_5 hvm_5 hw_5 hB_5 hz_5 hk_5 hS => ?_)
    replace hB_5 := (show va_P (dC, dI) vwCl (modW b r1 r2 g th) t_5.heap from hB_5)
    rw [ht_5] at hB_5
    have hP := hB_5
    obtain rfl : r_5 = b2i (TOKb x) := hw_5
    refine lv_iload_n hx hb dX13_floor_99 rfl (lv_at hl 2 rfl) ?_
    refine va_calli (va_runV (As := [.int (b2i (TOKb x)), .int (b2i (TOKb x)), .int 0]) (rest := []) ⟨hx, hb, hml, hown, hts⟩ (c_X13_passes l dC dI g b r1 r2 th (TOKb x) (TOKb x) false  H_5.size) (cwV 3 hts gX13_floor_X13_passes rfl rfl rfl (by decide +kernel) ⟨Nat.le_of_ble_eq_true rfl, Nat.le_of_ble_eq_true rfl⟩) ⟨PG_blind, va_recv hK hP (ci := 15) (q0 := 0) rfl (m_0 b r1 r2 g th), PG_call hK hG hS hP hD (A_all hD hA hS.1)⟩ rfl rfl hl.1 rfl (lv_room (Nat.le_of_ble_eq_true rfl)) dX13_floor_100 ⟨Nat.le_of_ble_eq_true rfl, Nat.le_of_ble_eq_true rfl⟩) hS (fun q _ h => (A_all hD hA hS.1) q h) (A_all hD hA hS.1) (fun r_6 u_6 t_6 H_6 L_6 ht_6 hvm_6 hw_6 hB_6 hz_6 hk_6 hS => ?_)
    rw [ht_6] at hB_6
    have hP : va_P (dC, dI) vwCl (modW b r1 r2 g (cd (TOKb x) (TOKb x) false)) H_6 := hB_6
    have hD : va_D A (modW b r1 r2 g (cd (TOKb x) (TOKb x) false)) := va_D_th hD
    obtain rfl : r_6 = 0 := hw_6.trans (by simp [b2i, hB_3, hB_3])
    refine lv_if_eq (tgt := 111) hx hb dX13_floor_103 (by decide) (fun c_7 => ?_) (fun c_7 => absurd (by decide) c_7)
    refine lv_iconst (v := 0) hx hb dX13_floor_111 (by decide) ?_
    have hcd : (cd (TOKb x) (TOKb x) false) = (cd (TOKb x) true false) := by simp [cd, hB_3]
    have hP8 := hP.sub (ws' := [((b 0), .inr (15, [.int (cd (TOKb x) (TOKb x) false), .ref (b 1), .ref (b 2), .int 0, .ref (b 3), .ref (b 4), .ref (b 5), .null, .ref (b 6), .int 0, .int 0, .int 0, .int 0, .int 0]))]) [0] rfl
    rw [hcd] at hP8
    exact W.iret (v := 0) hx hb hr (fun t ht hW => ⟨⟨0, (), rfl, trivial, ⟨[.ref (b 1), .ref (b 2), .int 0, .ref (b 3), .ref (b 4), .ref (b 5), .null, .ref (b 6), .int 0, .int 0, .int 0, .int 0, .int 0], P_at ht hP8⟩⟩, hS.F ht⟩) hS.2.2 dX13_floor_112
  · have hB_3 : (TOKb x) = true := b2i_1 c_2
    obtain ⟨jx, hjx, rfl⟩ := TOK_ex hB_3
    refine lv_iload hx hb dX13_floor_15 (lv_at hl 0 rfl) ?_
    refine lv_aload_n hx hb dX13_floor_17 rfl (lv_at hl 3 rfl) ?_
    refine va_get (D := (dC, dI)) (ci := 15) (v := .ref (b 3)) (C := RX13) (T := TX13) (N := 14) hx hb hts hiX13 hown hK hP 0 (m_0 b r1 r2 g th) rfl 4 (by decide) hf29 (fun _ h9 => h9) rfl dX13_floor_18 ?_
    refine lv_iload_n hx hb dX13_floor_21 rfl (lv_at hl 4 rfl) ?_
    refine va_aldA hx hb hK hP 3 (m_3 b r1 r2 g th) (vp_in_nI hjx (by decide)) dX13_floor_22 ?_
    refine W.eq (g2 := F0 m 23 ls [.ref (r1 jx), .int 0]) (by rw [nI_clamp (show jx < 2 ^ 31 by omega)]; simp only [if_pos hjx]; rfl) ?_
    refine va_alen hx hb hK hP (7 + jx) 0 (m_row1 b r1 r2 g th jx hjx) rfl (v := 0) rfl dX13_floor_23 ?_
    refine lv_icmp_ge (tgt := 89) hx hb dX13_floor_24 (by decide) (fun c_8 => ?_) (fun c_8 => absurd (by decide) c_8)
    refine lv_aload_n hx hb dX13_floor_89 rfl (lv_at hl 3 rfl) ?_
    refine lv_iload_n hx hb dX13_floor_90 rfl (lv_at hl 4 rfl) ?_
    refine va_calli (va_runS (As := [.int (nI jx)]) (rest := [.ref (b 0)]) ⟨hx, hb, hml, hown, hts⟩ (c_X13_isTape l dC dI g (modW b r1 r2 g th) (nI jx)   H_1.size) (va_cwS 1 hts gX13_floor_X13_isTape rfl rfl rfl (by decide +kernel) ⟨Nat.le_of_ble_eq_true rfl, Nat.le_of_ble_eq_true rfl⟩) ⟨PG_blind, PG_call hK hG hS hP hD (A_all hD hA hS.1)⟩ rfl rfl hl.1 rfl (lv_room (Nat.le_of_ble_eq_true rfl)) dX13_floor_91 ⟨Nat.le_of_ble_eq_true rfl, Nat.le_of_ble_eq_true rfl⟩) hS (fun q _ h => (A_all hD hA hS.1) q h) (A_all hD hA hS.1) (fun r_9 u_9 t_9 H_9 L_9 ht_9 hvm_9 hw_9 hB_9 hz_9 hk_9 hS => ?_)
    replace hB_9 := (show va_P (dC, dI) vwCl (modW b r1 r2 g th) t_9.heap from hB_9)
    rw [ht_9] at hB_9
    have hP := hB_9
    obtain rfl : r_9 = b2i (TOKb (nI jx)) := hw_9
    refine lv_aload_n hx hb dX13_floor_94 rfl (lv_at hl 3 rfl) ?_
    refine lv_iload_n hx hb dX13_floor_95 rfl (lv_at hl 4 rfl) ?_
    refine va_calli (va_runV (As := [.int (nI jx)]) (rest := [.int (b2i (TOKb (nI jx))), .ref (b 0)]) ⟨hx, hb, hml, hown, hts⟩ (c_X13_isUp l dC dI g b r1 r2 (nI jx) th  H_9.size) (cwV 1 hts gX13_floor_X13_isUp rfl rfl rfl (by decide +kernel) ⟨Nat.le_of_ble_eq_true rfl, Nat.le_of_ble_eq_true rfl⟩) ⟨PG_blind, va_recv hK hP (ci := 15) (q0 := 0) rfl (m_0 b r1 r2 g th), PG_call hK hG hS hP hD (A_all hD hA hS.1)⟩ rfl rfl hl.1 rfl (lv_room (Nat.le_of_ble_eq_true rfl)) dX13_floor_96 ⟨Nat.le_of_ble_eq_true rfl, Nat.le_of_ble_eq_true rfl⟩) hS (fun q _ h => (A_all hD hA hS.1) q h) (A_all hD hA hS.1) (fun r_10 u_10 t_10 H_10 L_10 ht_10 hvm_10 hw_10 hB_10 hz_10 hk_10 hS => ?_)
    replace hB_10 := (show va_P (dC, dI) vwCl (modW b r1 r2 g th) t_10.heap from hB_10)
    rw [ht_10] at hB_10
    have hP := hB_10
    obtain rfl : r_10 = b2i (TOKb (nI jx)) := hw_10
    refine lv_iload_n hx hb dX13_floor_99 rfl (lv_at hl 2 rfl) ?_
    refine va_calli (va_runV (As := [.int (b2i (TOKb (nI jx))), .int (b2i (TOKb (nI jx))), .int 0]) (rest := []) ⟨hx, hb, hml, hown, hts⟩ (c_X13_passes l dC dI g b r1 r2 th (TOKb (nI jx)) (TOKb (nI jx)) false  H_10.size) (cwV 3 hts gX13_floor_X13_passes rfl rfl rfl (by decide +kernel) ⟨Nat.le_of_ble_eq_true rfl, Nat.le_of_ble_eq_true rfl⟩) ⟨PG_blind, va_recv hK hP (ci := 15) (q0 := 0) rfl (m_0 b r1 r2 g th), PG_call hK hG hS hP hD (A_all hD hA hS.1)⟩ rfl rfl hl.1 rfl (lv_room (Nat.le_of_ble_eq_true rfl)) dX13_floor_100 ⟨Nat.le_of_ble_eq_true rfl, Nat.le_of_ble_eq_true rfl⟩) hS (fun q _ h => (A_all hD hA hS.1) q h) (A_all hD hA hS.1) (fun r_11 u_11 t_11 H_11 L_11 ht_11 hvm_11 hw_11 hB_11 hz_11 hk_11 hS => ?_)
    rw [ht_11] at hB_11
    have hP : va_P (dC, dI) vwCl (modW b r1 r2 g (cd (TOKb (nI jx)) (TOKb (nI jx)) false)) H_11 := hB_11
    have hD : va_D A (modW b r1 r2 g (cd (TOKb (nI jx)) (TOKb (nI jx)) false)) := va_D_th hD
    obtain rfl : r_11 = 0 := hw_11.trans (by simp [b2i, (TOK_j hjx rfl), (TOK_j hjx rfl)])
    refine lv_if_eq (tgt := 111) hx hb dX13_floor_103 (by decide) (fun c_12 => ?_) (fun c_12 => absurd (by decide) c_12)
    refine lv_iconst (v := 0) hx hb dX13_floor_111 (by decide) ?_
    have hcd : (cd (TOKb (nI jx)) (TOKb (nI jx)) false) = (cd (TOKb (nI jx)) true false) := by simp [cd, (TOK_j hjx rfl)]
    have hP8 := hP.sub (ws' := [((b 0), .inr (15, [.int (cd (TOKb (nI jx)) (TOKb (nI jx)) false), .ref (b 1), .ref (b 2), .int 0, .ref (b 3), .ref (b 4), .ref (b 5), .null, .ref (b 6), .int 0, .int 0, .int 0, .int 0, .int 0]))]) [0] rfl
    rw [hcd] at hP8
    exact W.iret (v := 0) hx hb hr (fun t ht hW => ⟨⟨0, (), rfl, trivial, ⟨[.ref (b 1), .ref (b 2), .int 0, .ref (b 3), .ref (b 4), .ref (b 5), .null, .ref (b 6), .int 0, .int 0, .int 0, .int 0, .int 0], P_at ht hP8⟩⟩, hS.F ht⟩) hS.2.2 dX13_floor_112
set_option maxHeartbeats 4000000 in
set_option maxRecDepth 100000 in
theorem c_X13_ceiling (l : Launch) (dC : Nat → ClassId) (dI : Nat → Nat → Nat) (g : Nat → ClassId) (b : Nat → Nat) (r1 : Nat → Nat) (r2 : Nat → Nat) (x : Int32) (k : Int32) (th : Int32) (sz : Nat) : Met l yX13_ceiling wsX13_ceiling ({ frames := 3, cells := 0, slots := 0, locals := 63 }) (va_Pc [.ref (b 0), .int x, .int k] (PG (dC, dI) g (modW b r1 r2 g th) sz)) (va_Qi (fun (_ : Int32) (_ : Unit) => True) (fun (_ : Unit) t => ∃ fs : List Value, va_P (dC, dI) vwCl [(b 0, .inr (15, .int (cd (TOKb x) true false) :: fs))] t.heap) (va_A (modW b r1 r2 g th) sz)) 0 0 (va_A (modW b r1 r2 g th) sz) := by
  refine Met.ofW (cc := cX13_ceiling) (maxL := 7) (ret := (some .int)) (by decide) rfl ?_
  intro p e s m args below meth c s₁ B hml hv
  obtain ⟨rfl, hsz, hP, hK, hD0, hG⟩ := hv
  have hx := B.exec
  have hb := B.bytes
  have hr := B.returns
  have hts := atoms_spec (ws := wsX13_ceiling) B.pre
  have hown : s.vm.findClass RX13 = some m.cls := findClass_of_methodNamed B.named
  have hlocks := B.notSynchronized
  subst hsz
  have hD := hD0.self (sz := s.heap.size)
  generalize hAe : va_A (modW b r1 r2 g th) s.heap.size = A at hD hG ⊢
  have hA : ∀ q : Nat, s.heap.size ≤ q → A q := fun q h => by rw [← hAe]; exact Or.inr h
  have hS : va_S A s.heap s.heap [] := va_S.rf
  have hl := lv_entry ([.ref (b 0), .int x, .int k]) (n := 7) (Nat.le_of_ble_eq_true rfl)
  rw [lg_entry_eq]
  generalize (lg_sl ([.ref (b 0), .int x, .int k]) ++ List.replicate (7 - (lg_sl ([.ref (b 0), .int x, .int k])).length) Slot.unset).toArray = ls at hl ⊢
  have hl : lv_has ls 7 [(0, .ref (b 0)), (1, .int x), (2, .int k)] := hl
  have hf29 := hts (Cond.fieldLink RX13 29 "RunmergeOfficeModel" "tapes" "[[I") (by decide +kernel)
  have hiX13 : ∀ w ∈ u_ws RX13 TX13 14, w ∈ wsX13_ceiling := by decide +kernel
  refine lv_iconst (v := 0) hx hb dX13_ceiling_0 (by decide) ?_
  refine lv_istore_n (lv' := [(3, .int 0), (0, .ref (b 0)), (1, .int x), (2, .int k)]) hx hb dX13_ceiling_1 rfl hl (by decide) rfl (fun ls hl => ?_)
  refine lv_iconst (v := 0) hx hb dX13_ceiling_2 (by decide) ?_
  refine lv_istore (lv' := [(4, .int 0), (3, .int 0), (0, .ref (b 0)), (1, .int x), (2, .int k)]) hx hb dX13_ceiling_3 hl (by decide) rfl (fun ls hl => ?_)
  refine lv_iconst (v := 0) hx hb dX13_ceiling_5 (by decide) ?_
  refine lv_istore (lv' := [(5, .int 0), (4, .int 0), (3, .int 0), (0, .ref (b 0)), (1, .int x), (2, .int k)]) hx hb dX13_ceiling_6 hl (by decide) rfl (fun ls hl => ?_)
  refine lv_iload_n hx hb dX13_ceiling_8 rfl (lv_at hl 4 rfl) ?_
  refine va_calli (va_runS (As := [.int x]) (rest := []) ⟨hx, hb, hml, hown, hts⟩ (c_X13_isTape l dC dI g (modW b r1 r2 g th) x   s.heap.size) (va_cwS 1 hts gX13_ceiling_X13_isTape rfl rfl rfl (by decide +kernel) ⟨Nat.le_of_ble_eq_true rfl, Nat.le_of_ble_eq_true rfl⟩) ⟨PG_blind, PG_call hK hG hS hP hD (A_all hD hA hS.1)⟩ rfl rfl hl.1 rfl (lv_room (Nat.le_of_ble_eq_true rfl)) dX13_ceiling_9 ⟨Nat.le_of_ble_eq_true rfl, Nat.le_of_ble_eq_true rfl⟩) hS (fun q _ h => (A_all hD hA hS.1) q h) (A_all hD hA hS.1) (fun r_1 u_1 t_1 H_1 L_1 ht_1 hvm_1 hw_1 hB_1 hz_1 hk_1 hS => ?_)
  replace hB_1 := (show va_P (dC, dI) vwCl (modW b r1 r2 g th) t_1.heap from hB_1)
  rw [ht_1] at hB_1
  have hP := hB_1
  obtain rfl : r_1 = b2i (TOKb x) := hw_1
  refine lv_if_eq (tgt := 89) hx hb dX13_ceiling_12 (by decide) (fun c_2 => ?_) (fun c_2 => ?_)
  · have hB_3 : (TOKb x) = false := b2i_0 c_2
    refine lv_aload_n hx hb dX13_ceiling_89 rfl (lv_at hl 3 rfl) ?_
    refine lv_iload_n hx hb dX13_ceiling_90 rfl (lv_at hl 4 rfl) ?_
    refine va_calli (va_runS (As := [.int x]) (rest := [.ref (b 0)]) ⟨hx, hb, hml, hown, hts⟩ (c_X13_isTape l dC dI g (modW b r1 r2 g th) x   H_1.size) (va_cwS 1 hts gX13_ceiling_X13_isTape rfl rfl rfl (by decide +kernel) ⟨Nat.le_of_ble_eq_true rfl, Nat.le_of_ble_eq_true rfl⟩) ⟨PG_blind, PG_call hK hG hS hP hD (A_all hD hA hS.1)⟩ rfl rfl hl.1 rfl (lv_room (Nat.le_of_ble_eq_true rfl)) dX13_ceiling_91 ⟨Nat.le_of_ble_eq_true rfl, Nat.le_of_ble_eq_true rfl⟩) hS (fun q _ h => (A_all hD hA hS.1) q h) (A_all hD hA hS.1) (fun r_4 u_4 t_4 H_4 L_4 ht_4 hvm_4 hw_4 hB_4 hz_4 hk_4 hS => ?_)
    replace hB_4 := (show va_P (dC, dI) vwCl (modW b r1 r2 g th) t_4.heap from hB_4)
    rw [ht_4] at hB_4
    have hP := hB_4
    obtain rfl : r_4 = b2i (TOKb x) := hw_4
    refine lv_aload_n hx hb dX13_ceiling_94 rfl (lv_at hl 3 rfl) ?_
    refine lv_iload_n hx hb dX13_ceiling_95 rfl (lv_at hl 4 rfl) ?_
    refine va_calli (va_runV (As := [.int x]) (rest := [.int (b2i (TOKb x)), .ref (b 0)]) ⟨hx, hb, hml, hown, hts⟩ (c_X13_isUp l dC dI g b r1 r2 x th  H_4.size) (cwV 1 hts gX13_ceiling_X13_isUp rfl rfl rfl (by decide +kernel) ⟨Nat.le_of_ble_eq_true rfl, Nat.le_of_ble_eq_true rfl⟩) ⟨PG_blind, va_recv hK hP (ci := 15) (q0 := 0) rfl (m_0 b r1 r2 g th), PG_call hK hG hS hP hD (A_all hD hA hS.1)⟩ rfl rfl hl.1 rfl (lv_room (Nat.le_of_ble_eq_true rfl)) dX13_ceiling_96 ⟨Nat.le_of_ble_eq_true rfl, Nat.le_of_ble_eq_true rfl⟩) hS (fun q _ h => (A_all hD hA hS.1) q h) (A_all hD hA hS.1) (fun r_5 u_5 t_5 H_5 L_5 ht_5 hvm_5 hw_5 hB_5 hz_5 hk_5 hS => ?_)
    replace hB_5 := (show va_P (dC, dI) vwCl (modW b r1 r2 g th) t_5.heap from hB_5)
    rw [ht_5] at hB_5
    have hP := hB_5
    obtain rfl : r_5 = b2i (TOKb x) := hw_5
    refine lv_iload_n hx hb dX13_ceiling_99 rfl (lv_at hl 2 rfl) ?_
    refine va_calli (va_runV (As := [.int (b2i (TOKb x)), .int (b2i (TOKb x)), .int 0]) (rest := []) ⟨hx, hb, hml, hown, hts⟩ (c_X13_passes l dC dI g b r1 r2 th (TOKb x) (TOKb x) false  H_5.size) (cwV 3 hts gX13_ceiling_X13_passes rfl rfl rfl (by decide +kernel) ⟨Nat.le_of_ble_eq_true rfl, Nat.le_of_ble_eq_true rfl⟩) ⟨PG_blind, va_recv hK hP (ci := 15) (q0 := 0) rfl (m_0 b r1 r2 g th), PG_call hK hG hS hP hD (A_all hD hA hS.1)⟩ rfl rfl hl.1 rfl (lv_room (Nat.le_of_ble_eq_true rfl)) dX13_ceiling_100 ⟨Nat.le_of_ble_eq_true rfl, Nat.le_of_ble_eq_true rfl⟩) hS (fun q _ h => (A_all hD hA hS.1) q h) (A_all hD hA hS.1) (fun r_6 u_6 t_6 H_6 L_6 ht_6 hvm_6 hw_6 hB_6 hz_6 hk_6 hS => ?_)
    rw [ht_6] at hB_6
    have hP : va_P (dC, dI) vwCl (modW b r1 r2 g (cd (TOKb x) (TOKb x) false)) H_6 := hB_6
    have hD : va_D A (modW b r1 r2 g (cd (TOKb x) (TOKb x) false)) := va_D_th hD
    obtain rfl : r_6 = 0 := hw_6.trans (by simp [b2i, hB_3, hB_3])
    refine lv_if_eq (tgt := 111) hx hb dX13_ceiling_103 (by decide) (fun c_7 => ?_) (fun c_7 => absurd (by decide) c_7)
    refine lv_iconst (v := 0) hx hb dX13_ceiling_111 (by decide) ?_
    have hcd : (cd (TOKb x) (TOKb x) false) = (cd (TOKb x) true false) := by simp [cd, hB_3]
    have hP8 := hP.sub (ws' := [((b 0), .inr (15, [.int (cd (TOKb x) (TOKb x) false), .ref (b 1), .ref (b 2), .int 0, .ref (b 3), .ref (b 4), .ref (b 5), .null, .ref (b 6), .int 0, .int 0, .int 0, .int 0, .int 0]))]) [0] rfl
    rw [hcd] at hP8
    exact W.iret (v := 0) hx hb hr (fun t ht hW => ⟨⟨0, (), rfl, trivial, ⟨[.ref (b 1), .ref (b 2), .int 0, .ref (b 3), .ref (b 4), .ref (b 5), .null, .ref (b 6), .int 0, .int 0, .int 0, .int 0, .int 0], P_at ht hP8⟩⟩, hS.F ht⟩) hS.2.2 dX13_ceiling_112
  · have hB_3 : (TOKb x) = true := b2i_1 c_2
    obtain ⟨jx, hjx, rfl⟩ := TOK_ex hB_3
    refine lv_iload hx hb dX13_ceiling_15 (lv_at hl 0 rfl) ?_
    refine lv_aload_n hx hb dX13_ceiling_17 rfl (lv_at hl 3 rfl) ?_
    refine va_get (D := (dC, dI)) (ci := 15) (v := .ref (b 3)) (C := RX13) (T := TX13) (N := 14) hx hb hts hiX13 hown hK hP 0 (m_0 b r1 r2 g th) rfl 4 (by decide) hf29 (fun _ h9 => h9) rfl dX13_ceiling_18 ?_
    refine lv_iload_n hx hb dX13_ceiling_21 rfl (lv_at hl 4 rfl) ?_
    refine va_aldA hx hb hK hP 3 (m_3 b r1 r2 g th) (vp_in_nI hjx (by decide)) dX13_ceiling_22 ?_
    refine W.eq (g2 := F0 m 23 ls [.ref (r1 jx), .int 0]) (by rw [nI_clamp (show jx < 2 ^ 31 by omega)]; simp only [if_pos hjx]; rfl) ?_
    refine va_alen hx hb hK hP (7 + jx) 0 (m_row1 b r1 r2 g th jx hjx) rfl (v := 0) rfl dX13_ceiling_23 ?_
    refine lv_icmp_ge (tgt := 89) hx hb dX13_ceiling_24 (by decide) (fun c_8 => ?_) (fun c_8 => absurd (by decide) c_8)
    refine lv_aload_n hx hb dX13_ceiling_89 rfl (lv_at hl 3 rfl) ?_
    refine lv_iload_n hx hb dX13_ceiling_90 rfl (lv_at hl 4 rfl) ?_
    refine va_calli (va_runS (As := [.int (nI jx)]) (rest := [.ref (b 0)]) ⟨hx, hb, hml, hown, hts⟩ (c_X13_isTape l dC dI g (modW b r1 r2 g th) (nI jx)   H_1.size) (va_cwS 1 hts gX13_ceiling_X13_isTape rfl rfl rfl (by decide +kernel) ⟨Nat.le_of_ble_eq_true rfl, Nat.le_of_ble_eq_true rfl⟩) ⟨PG_blind, PG_call hK hG hS hP hD (A_all hD hA hS.1)⟩ rfl rfl hl.1 rfl (lv_room (Nat.le_of_ble_eq_true rfl)) dX13_ceiling_91 ⟨Nat.le_of_ble_eq_true rfl, Nat.le_of_ble_eq_true rfl⟩) hS (fun q _ h => (A_all hD hA hS.1) q h) (A_all hD hA hS.1) (fun r_9 u_9 t_9 H_9 L_9 ht_9 hvm_9 hw_9 hB_9 hz_9 hk_9 hS => ?_)
    replace hB_9 := (show va_P (dC, dI) vwCl (modW b r1 r2 g th) t_9.heap from hB_9)
    rw [ht_9] at hB_9
    have hP := hB_9
    obtain rfl : r_9 = b2i (TOKb (nI jx)) := hw_9
    refine lv_aload_n hx hb dX13_ceiling_94 rfl (lv_at hl 3 rfl) ?_
    refine lv_iload_n hx hb dX13_ceiling_95 rfl (lv_at hl 4 rfl) ?_
    refine va_calli (va_runV (As := [.int (nI jx)]) (rest := [.int (b2i (TOKb (nI jx))), .ref (b 0)]) ⟨hx, hb, hml, hown, hts⟩ (c_X13_isUp l dC dI g b r1 r2 (nI jx) th  H_9.size) (cwV 1 hts gX13_ceiling_X13_isUp rfl rfl rfl (by decide +kernel) ⟨Nat.le_of_ble_eq_true rfl, Nat.le_of_ble_eq_true rfl⟩) ⟨PG_blind, va_recv hK hP (ci := 15) (q0 := 0) rfl (m_0 b r1 r2 g th), PG_call hK hG hS hP hD (A_all hD hA hS.1)⟩ rfl rfl hl.1 rfl (lv_room (Nat.le_of_ble_eq_true rfl)) dX13_ceiling_96 ⟨Nat.le_of_ble_eq_true rfl, Nat.le_of_ble_eq_true rfl⟩) hS (fun q _ h => (A_all hD hA hS.1) q h) (A_all hD hA hS.1) (fun r_10 u_10 t_10 H_10 L_10 ht_10 hvm_10 hw_10 hB_10 hz_10 hk_10 hS => ?_)
    replace hB_10 := (show va_P (dC, dI) vwCl (modW b r1 r2 g th) t_10.heap from hB_10)
    rw [ht_10] at hB_10
    have hP := hB_10
    obtain rfl : r_10 = b2i (TOKb (nI jx)) := hw_10
    refine lv_iload_n hx hb dX13_ceiling_99 rfl (lv_at hl 2 rfl) ?_
    refine va_calli (va_runV (As := [.int (b2i (TOKb (nI jx))), .int (b2i (TOKb (nI jx))), .int 0]) (rest := []) ⟨hx, hb, hml, hown, hts⟩ (c_X13_passes l dC dI g b r1 r2 th (TOKb (nI jx)) (TOKb (nI jx)) false  H_10.size) (cwV 3 hts gX13_ceiling_X13_passes rfl rfl rfl (by decide +kernel) ⟨Nat.le_of_ble_eq_true rfl, Nat.le_of_ble_eq_true rfl⟩) ⟨PG_blind, va_recv hK hP (ci := 15) (q0 := 0) rfl (m_0 b r1 r2 g th), PG_call hK hG hS hP hD (A_all hD hA hS.1)⟩ rfl rfl hl.1 rfl (lv_room (Nat.le_of_ble_eq_true rfl)) dX13_ceiling_100 ⟨Nat.le_of_ble_eq_true rfl, Nat.le_of_ble_eq_true rfl⟩) hS (fun q _ h => (A_all hD hA hS.1) q h) (A_all hD hA hS.1) (fun r_11 u_11 t_11 H_11 L_11 ht_11 hvm_11 hw_11 hB_11 hz_11 hk_11 hS => ?_)
    rw [ht_11] at hB_11
    have hP : va_P (dC, dI) vwCl (modW b r1 r2 g (cd (TOKb (nI jx)) (TOKb (nI jx)) false)) H_11 := hB_11
    have hD : va_D A (modW b r1 r2 g (cd (TOKb (nI jx)) (TOKb (nI jx)) false)) := va_D_th hD
    obtain rfl : r_11 = 0 := hw_11.trans (by simp [b2i, (TOK_j hjx rfl), (TOK_j hjx rfl)])
    refine lv_if_eq (tgt := 111) hx hb dX13_ceiling_103 (by decide) (fun c_12 => ?_) (fun c_12 => absurd (by decide) c_12)
    refine lv_iconst (v := 0) hx hb dX13_ceiling_111 (by decide) ?_
    have hcd : (cd (TOKb (nI jx)) (TOKb (nI jx)) false) = (cd (TOKb (nI jx)) true false) := by simp [cd, (TOK_j hjx rfl)]
    have hP8 := hP.sub (ws' := [((b 0), .inr (15, [.int (cd (TOKb (nI jx)) (TOKb (nI jx)) false), .ref (b 1), .ref (b 2), .int 0, .ref (b 3), .ref (b 4), .ref (b 5), .null, .ref (b 6), .int 0, .int 0, .int 0, .int 0, .int 0]))]) [0] rfl
    rw [hcd] at hP8
    exact W.iret (v := 0) hx hb hr (fun t ht hW => ⟨⟨0, (), rfl, trivial, ⟨[.ref (b 1), .ref (b 2), .int 0, .ref (b 3), .ref (b 4), .ref (b 5), .null, .ref (b 6), .int 0, .int 0, .int 0, .int 0, .int 0], P_at ht hP8⟩⟩, hS.F ht⟩) hS.2.2 dX13_ceiling_112
set_option maxHeartbeats 4000000 in
set_option maxRecDepth 100000 in
theorem c_X13_meanKey (l : Launch) (dC : Nat → ClassId) (dI : Nat → Nat → Nat) (g : Nat → ClassId) (b : Nat → Nat) (r1 : Nat → Nat) (r2 : Nat → Nat) (x : Int32) (th : Int32) (sz : Nat) : Met l yX13_meanKey wsX13_meanKey ({ frames := 2, cells := 0, slots := 0, locals := 42 }) (va_Pc [.ref (b 0), .int x] (PG (dC, dI) g (modW b r1 r2 g th) sz)) (va_Qd (fun (r : UInt64) (_ : Unit) => (cd (TOKb x) true true) = 0 → r = FP.dconst0) (fun (_ : Unit) t => ∃ fs : List Value, va_P (dC, dI) vwCl [(b 0, .inr (15, .int (cd (TOKb x) true true) :: fs))] t.heap) (va_A (modW b r1 r2 g th) sz)) 0 0 (va_A (modW b r1 r2 g th) sz) := by
  refine Met.ofW (cc := cX13_meanKey) (maxL := 4) (ret := (some .double)) (by decide) rfl ?_
  intro p e s m args below meth c s₁ B hml hv
  obtain ⟨rfl, hsz, hP, hK, hD0, hG⟩ := hv
  have hx := B.exec
  have hb := B.bytes
  have hr := B.returns
  have hts := atoms_spec (ws := wsX13_meanKey) B.pre
  have hown : s.vm.findClass RX13 = some m.cls := findClass_of_methodNamed B.named
  have hlocks := B.notSynchronized
  subst hsz
  have hD := hD0.self (sz := s.heap.size)
  generalize hAe : va_A (modW b r1 r2 g th) s.heap.size = A at hD hG ⊢
  have hA : ∀ q : Nat, s.heap.size ≤ q → A q := fun q h => by rw [← hAe]; exact Or.inr h
  have hS : va_S A s.heap s.heap [] := va_S.rf
  have hl := lv_entry ([.ref (b 0), .int x]) (n := 4) (Nat.le_of_ble_eq_true rfl)
  rw [lg_entry_eq]
  generalize (lg_sl ([.ref (b 0), .int x]) ++ List.replicate (4 - (lg_sl ([.ref (b 0), .int x])).length) Slot.unset).toArray = ls at hl ⊢
  have hl : lv_has ls 4 [(0, .ref (b 0)), (1, .int x)] := hl
  have hf29 := hts (Cond.fieldLink RX13 29 "RunmergeOfficeModel" "tapes" "[[I") (by decide +kernel)
  have hiX13 : ∀ w ∈ u_ws RX13 TX13 14, w ∈ wsX13_meanKey := by decide +kernel
  refine lv_aload_n hx hb dX13_meanKey_0 rfl (lv_at hl 0 rfl) ?_
  refine lv_iload_n hx hb dX13_meanKey_1 rfl (lv_at hl 1 rfl) ?_
  refine va_calli (va_runS (As := [.int x]) (rest := [.ref (b 0)]) ⟨hx, hb, hml, hown, hts⟩ (c_X13_isTape l dC dI g (modW b r1 r2 g th) x   s.heap.size) (va_cwS 1 hts gX13_meanKey_X13_isTape rfl rfl rfl (by decide +kernel) ⟨Nat.le_of_ble_eq_true rfl, Nat.le_of_ble_eq_true rfl⟩) ⟨PG_blind, PG_call hK hG hS hP hD (A_all hD hA hS.1)⟩ rfl rfl hl.1 rfl (lv_room (Nat.le_of_ble_eq_true rfl)) dX13_meanKey_2 ⟨Nat.le_of_ble_eq_true rfl, Nat.le_of_ble_eq_true rfl⟩) hS (fun q _ h => (A_all hD hA hS.1) q h) (A_all hD hA hS.1) (fun r_1 u_1 t_1 H_1 L_1 ht_1 hvm_1 hw_1 hB_1 hz_1 hk_1 hS => ?_)
  replace hB_1 := (show va_P (dC, dI) vwCl (modW b r1 r2 g th) t_1.heap from hB_1)
  rw [ht_1] at hB_1
  have hP := hB_1
  obtain rfl : r_1 = b2i (TOKb x) := hw_1
  refine lv_iconst (v := 1) hx hb dX13_meanKey_5 (by decide) ?_
  refine lv_iconst (v := 1) hx hb dX13_meanKey_6 (by decide) ?_
  refine va_calli (va_runV (As := [.int (b2i (TOKb x)), .int 1, .int 1]) (rest := []) ⟨hx, hb, hml, hown, hts⟩ (c_X13_passes l dC dI g b r1 r2 th (TOKb x) true true  H_1.size) (cwV 3 hts gX13_meanKey_X13_passes rfl rfl rfl (by decide +kernel) ⟨Nat.le_of_ble_eq_true rfl, Nat.le_of_ble_eq_true rfl⟩) ⟨PG_blind, va_recv hK hP (ci := 15) (q0 := 0) rfl (m_0 b r1 r2 g th), PG_call hK hG hS hP hD (A_all hD hA hS.1)⟩ rfl rfl hl.1 rfl (lv_room (Nat.le_of_ble_eq_true rfl)) dX13_meanKey_7 ⟨Nat.le_of_ble_eq_true rfl, Nat.le_of_ble_eq_true rfl⟩) hS (fun q _ h => (A_all hD hA hS.1) q h) (A_all hD hA hS.1) (fun r_2 u_2 t_2 H_2 L_2 ht_2 hvm_2 hw_2 hB_2 hz_2 hk_2 hS => ?_)
  rw [ht_2] at hB_2
  have hP : va_P (dC, dI) vwCl (modW b r1 r2 g (cd (TOKb x) true true)) H_2 := hB_2
  have hD : va_D A (modW b r1 r2 g (cd (TOKb x) true true)) := va_D_th hD
  obtain rfl : r_2 = b2i (TOKb x) := hw_2.trans (by simp)
  refine lv_if_ne (tgt := 15) hx hb dX13_meanKey_10 (by decide) (fun c_3 => ?_) (fun c_3 => ?_)
  · have hB_4 : (TOKb x) = true := b2i_1 c_3
    obtain ⟨jx, hjx, rfl⟩ := TOK_ex hB_4
    refine lv_iconst (v := 0) hx hb dX13_meanKey_15 (by decide) ?_
    refine lv_istore_n (lv' := [(2, .int 0), (0, .ref (b 0)), (1, .int (nI jx))]) hx hb dX13_meanKey_16 rfl hl (by decide) rfl (fun ls hl => ?_)
    refine lv_iconst (v := 0) hx hb dX13_meanKey_17 (by decide) ?_
    refine lv_istore_n (lv' := [(3, .int 0), (2, .int 0), (0, .ref (b 0)), (1, .int (nI jx))]) hx hb dX13_meanKey_18 rfl hl (by decide) rfl (fun ls hl => ?_)
    refine lv_iload_n hx hb dX13_meanKey_19 rfl (lv_at hl 0 rfl) ?_
    refine lv_aload_n hx hb dX13_meanKey_20 rfl (lv_at hl 2 rfl) ?_
    refine va_get (D := (dC, dI)) (ci := 15) (v := .ref (b 3)) (C := RX13) (T := TX13) (N := 14) hx hb hts hiX13 hown hK hP 0 (m_0 b r1 r2 g (cd (TOKb (nI jx)) true true)) rfl 4 (by decide) hf29 (fun _ h9 => h9) rfl dX13_meanKey_21 ?_
    refine lv_iload_n hx hb dX13_meanKey_24 rfl (lv_at hl 3 rfl) ?_
    refine va_aldA hx hb hK hP 3 (m_3 b r1 r2 g (cd (TOKb (nI jx)) true true)) (vp_in_nI hjx (by decide)) dX13_meanKey_25 ?_
    refine W.eq (g2 := F0 m 26 ls [.ref (r1 jx), .int 0]) (by rw [nI_clamp (show jx < 2 ^ 31 by omega)]; simp only [if_pos hjx]; rfl) ?_
    refine va_alen hx hb hK hP (7 + jx) 0 (m_row1 b r1 r2 g (cd (TOKb (nI jx)) true true) jx hjx) rfl (v := 0) rfl dX13_meanKey_26 ?_
    refine lv_icmp_ge (tgt := 52) hx hb dX13_meanKey_27 (by decide) (fun c_5 => ?_) (fun c_5 => absurd (by decide) c_5)
    refine lv_aload_n hx hb dX13_meanKey_52 rfl (lv_at hl 2 rfl) ?_
    refine va_get (D := (dC, dI)) (ci := 15) (v := .ref (b 3)) (C := RX13) (T := TX13) (N := 14) hx hb hts hiX13 hown hK hP 0 (m_0 b r1 r2 g (cd (TOKb (nI jx)) true true)) rfl 4 (by decide) hf29 (fun _ h9 => h9) rfl dX13_meanKey_53 ?_
    refine lv_iload_n hx hb dX13_meanKey_56 rfl (lv_at hl 3 rfl) ?_
    refine va_aldA hx hb hK hP 3 (m_3 b r1 r2 g (cd (TOKb (nI jx)) true true)) (vp_in_nI hjx (by decide)) dX13_meanKey_57 ?_
    refine W.eq (g2 := F0 m 58 ls [.ref (r1 jx)]) (by rw [nI_clamp (show jx < 2 ^ 31 by omega)]; simp only [if_pos hjx]; rfl) ?_
    refine va_alen hx hb hK hP (7 + jx) 0 (m_row1 b r1 r2 g (cd (TOKb (nI jx)) true true) jx hjx) rfl (v := 0) rfl dX13_meanKey_58 ?_
    refine lv_if_ne (tgt := 66) hx hb dX13_meanKey_59 (by decide) (fun c_6 => absurd (by decide) c_6) (fun c_6 => ?_)
    refine lv_dconst0 hx hb dX13_meanKey_62 ?_
    refine lv_goto (tgt := 77) hx hb dX13_meanKey_63 (by decide) ?_
    have hcd : (cd (TOKb (nI jx)) true true) = (cd (TOKb (nI jx)) true true) := rfl
    have hP8 := hP.sub (ws' := [((b 0), .inr (15, [.int (cd (TOKb (nI jx)) true true), .ref (b 1), .ref (b 2), .int 0, .ref (b 3), .ref (b 4), .ref (b 5), .null, .ref (b 6), .int 0, .int 0, .int 0, .int 0, .int 0]))]) [0] rfl
    rw [hcd] at hP8
    exact W.dret (v := FP.dconst0) hx hb hr (fun t ht hW => ⟨⟨FP.dconst0, (), rfl, (fun h => by first | rfl | (exact absurd (cd_0.mp h) (by simp [(TOK_j hjx rfl)]))), ⟨[.ref (b 1), .ref (b 2), .int 0, .ref (b 3), .ref (b 4), .ref (b 5), .null, .ref (b 6), .int 0, .int 0, .int 0, .int 0, .int 0], P_at ht hP8⟩⟩, hS.F ht⟩) hS.2.2 dX13_meanKey_77
  · have hB_4 : (TOKb x) = false := b2i_0 c_3
    refine lv_dconst0 hx hb dX13_meanKey_13 ?_
    have hcd : (cd (TOKb x) true true) = (cd (TOKb x) true true) := rfl
    have hP8 := hP.sub (ws' := [((b 0), .inr (15, [.int (cd (TOKb x) true true), .ref (b 1), .ref (b 2), .int 0, .ref (b 3), .ref (b 4), .ref (b 5), .null, .ref (b 6), .int 0, .int 0, .int 0, .int 0, .int 0]))]) [0] rfl
    rw [hcd] at hP8
    exact W.dret (v := FP.dconst0) hx hb hr (fun t ht hW => ⟨⟨FP.dconst0, (), rfl, (fun h => by first | rfl | (exact absurd (cd_0.mp h) (by simp [hB_4]))), ⟨[.ref (b 1), .ref (b 2), .int 0, .ref (b 3), .ref (b 4), .ref (b 5), .null, .ref (b 6), .int 0, .int 0, .int 0, .int 0, .int 0], P_at ht hP8⟩⟩, hS.F ht⟩) hS.2.2 dX13_meanKey_14
