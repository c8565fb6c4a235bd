theorem dX0_has_0 : decode cX0_has 0 = .ok (.iload_n 1, 1) := by decide +kernel
theorem dX0_has_1 : decode cX0_has 1 = .ok (.ifCond .lt 15, 3) := by decide +kernel
theorem dX0_has_16 : decode cX0_has 16 = .ok (.iconst 0, 1) := by decide +kernel
theorem dX0_has_17 : decode cX0_has 17 = .ok (.ireturn, 1) := by decide +kernel
theorem dX0_has_4 : decode cX0_has 4 = .ok (.iload_n 1, 1) := by decide +kernel
theorem dX0_has_5 : decode cX0_has 5 = .ok (.aload_n 0, 1) := by decide +kernel
theorem dX0_has_6 : decode cX0_has 6 = .ok (.getfield 18, 3) := by decide +kernel
theorem dX0_has_9 : decode cX0_has 9 = .ok (.if_icmp .ge 7, 3) := by decide +kernel
theorem dX11_demandRecord_0 : decode cX11_demandRecord 0 = .ok (.aload_n 0, 1) := by decide +kernel
theorem dX11_demandRecord_1 : decode cX11_demandRecord 1 = .ok (.getfield 10, 3) := by decide +kernel
theorem dX11_demandRecord_4 : decode cX11_demandRecord 4 = .ok (.iload_n 1, 1) := by decide +kernel
set_option maxRecDepth 20000 in
theorem ggX11_demandRecord_X0_has : GoodIn wsX11_demandRecord wsX0_has := goodIn_r _ [8, 9, 23, 24, 25] (by decide +kernel) (by decide +kernel)
set_option maxRecDepth 20000 in
theorem gX11_demandRecord_X0_has : GoodIn wsX11_demandRecord (wsV RX11 345 RX0 yX0_has wsX0_has) := goodIn_app (goodIn_of _ (by decide +kernel)) ggX11_demandRecord_X0_has
theorem dX11_demandRecord_5 : decode cX11_demandRecord 5 = .ok (.invokevirtual 345, 3) := by decide +kernel
theorem dX11_demandRecord_8 : decode cX11_demandRecord 8 = .ok (.ifCond .ne 14, 3) := by decide +kernel
theorem dX11_demandRecord_11 : decode cX11_demandRecord 11 = .ok (.new 138, 3) := by decide +kernel
theorem dX11_demandRecord_14 : decode cX11_demandRecord 14 = .ok (.dup, 1) := by decide +kernel
theorem dX11_demandRecord_15 : decode cX11_demandRecord 15 = .ok (.ldc_w 349, 3) := by decide +kernel
theorem dX11_demandRecord_18 : decode cX11_demandRecord 18 = .ok (.invokespecial 142, 3) := by decide +kernel
theorem dX11_demandRecord_21 : decode cX11_demandRecord 21 = .ok (.athrow, 1) := by decide +kernel
theorem dX11_key_0 : decode cX11_key 0 = .ok (.aload_n 0, 1) := by decide +kernel
theorem dX11_key_1 : decode cX11_key 1 = .ok (.iload_n 1, 1) := by decide +kernel
set_option maxRecDepth 20000 in
theorem ggX11_key_X11_demandRecord : GoodIn wsX11_key wsX11_demandRecord := goodIn_ca (goodIn_r _ [6, 7, 8, 1, 9, 10, 11, 12, 13, 14, 20, 21, 22, 23, 24, 25, 26, 27, 28, 29, 30, 31, 32, 33, 34, 35] (by decide +kernel) (by decide +kernel)) (goodIn_sub (fun _ h => List.mem_cons_of_mem _ (List.mem_append_right _ h)) (by decide +kernel))
set_option maxRecDepth 20000 in
theorem gX11_key_X11_demandRecord : GoodIn wsX11_key (wsV RX11 128 RX11 yX11_demandRecord wsX11_demandRecord) := goodIn_app (goodIn_of _ (by decide +kernel)) ggX11_key_X11_demandRecord
theorem dX11_key_2 : decode cX11_key 2 = .ok (.invokevirtual 128, 3) := by decide +kernel
theorem dX11_mark_0 : decode cX11_mark 0 = .ok (.aload_n 0, 1) := by decide +kernel
theorem dX11_mark_1 : decode cX11_mark 1 = .ok (.iload_n 1, 1) := by decide +kernel
set_option maxRecDepth 20000 in
theorem ggX11_mark_X11_demandRecord : GoodIn wsX11_mark wsX11_demandRecord := goodIn_ca (goodIn_r _ [6, 7, 8, 1, 9, 10, 11, 12, 13, 14, 20, 21, 22, 23, 24, 25, 26, 27, 28, 29, 30, 31, 32, 33, 34, 35] (by decide +kernel) (by decide +kernel)) (goodIn_sub (fun _ h => List.mem_cons_of_mem _ (List.mem_append_right _ h)) (by decide +kernel))
set_option maxRecDepth 20000 in
theorem gX11_mark_X11_demandRecord : GoodIn wsX11_mark (wsV RX11 128 RX11 yX11_demandRecord wsX11_demandRecord) := goodIn_app (goodIn_of _ (by decide +kernel)) ggX11_mark_X11_demandRecord
theorem dX11_mark_2 : decode cX11_mark 2 = .ok (.invokevirtual 128, 3) := by decide +kernel
theorem dX11_at_0 : decode cX11_at 0 = .ok (.aload_n 0, 1) := by decide +kernel
theorem dX11_at_1 : decode cX11_at 1 = .ok (.iload_n 1, 1) := by decide +kernel
set_option maxRecDepth 20000 in
theorem ggX11_at_X11_tapeOf : GoodIn wsX11_at wsX11_tapeOf := goodIn_ca (goodIn_r _ [7, 1, 2, 8, 18, 19, 20, 21, 22, 23, 24, 25, 26, 27, 28, 29, 30] (by decide +kernel) (by decide +kernel)) (goodIn_sub (fun _ h => List.mem_cons_of_mem _ (List.mem_append_right _ h)) (by decide +kernel))
set_option maxRecDepth 20000 in
theorem gX11_at_X11_tapeOf : GoodIn wsX11_at (wsV RX11 86 RX11 yX11_tapeOf wsX11_tapeOf) := goodIn_app (goodIn_of _ (by decide +kernel)) ggX11_at_X11_tapeOf
theorem dX11_at_2 : decode cX11_at 2 = .ok (.invokevirtual 86, 3) := by decide +kernel
theorem dX11_at_5 : decode cX11_at 5 = .ok (.astore_n 3, 1) := by decide +kernel
theorem dX11_at_6 : decode cX11_at 6 = .ok (.iload_n 2, 1) := by decide +kernel
theorem dX11_at_7 : decode cX11_at 7 = .ok (.ifCond .lt 11, 3) := by decide +kernel
theorem dX11_at_18 : decode cX11_at 18 = .ok (.new 138, 3) := by decide +kernel
theorem dX11_at_21 : decode cX11_at 21 = .ok (.dup, 1) := by decide +kernel
theorem dX11_at_22 : decode cX11_at 22 = .ok (.ldc 140, 2) := by decide +kernel
theorem dX11_at_24 : decode cX11_at 24 = .ok (.invokespecial 142, 3) := by decide +kernel
theorem dX11_at_27 : decode cX11_at 27 = .ok (.athrow, 1) := by decide +kernel
theorem dX11_at_10 : decode cX11_at 10 = .ok (.iload_n 2, 1) := by decide +kernel
theorem dX11_at_11 : decode cX11_at 11 = .ok (.aload_n 3, 1) := by decide +kernel
theorem dX11_at_12 : decode cX11_at 12 = .ok (.getfield 105, 3) := by decide +kernel
theorem dX11_at_15 : decode cX11_at 15 = .ok (.if_icmp .lt 13, 3) := by decide +kernel
theorem dX11_askForRun_0 : decode cX11_askForRun 0 = .ok (.aload_n 0, 1) := by decide +kernel
theorem dX11_askForRun_1 : decode cX11_askForRun 1 = .ok (.getfield 40, 3) := by decide +kernel
theorem dX11_askForRun_4 : decode cX11_askForRun 4 = .ok (.aload_n 0, 1) := by decide +kernel
theorem dX11_askForRun_5 : decode cX11_askForRun 5 = .ok (.getfield 10, 3) := by decide +kernel
theorem dX11_askForRun_8 : decode cX11_askForRun 8 = .ok (.aload_n 0, 1) := by decide +kernel
theorem dX11_askForRun_9 : decode cX11_askForRun 9 = .ok (.iload_n 1, 1) := by decide +kernel
set_option maxRecDepth 20000 in
theorem ggX11_askForRun_X11_tapeOf : GoodIn wsX11_askForRun wsX11_tapeOf := goodIn_ca (goodIn_r _ [11, 1, 2, 12, 87, 88, 89, 90, 91, 92, 93, 94, 95, 96, 97, 98, 99] (by decide +kernel) (by decide +kernel)) (goodIn_sub (fun _ h => List.mem_cons_of_mem _ (List.mem_append_right _ h)) (by decide +kernel))
set_option maxRecDepth 20000 in
theorem gX11_askForRun_X11_tapeOf : GoodIn wsX11_askForRun (wsV RX11 86 RX11 yX11_tapeOf wsX11_tapeOf) := goodIn_app (goodIn_of _ (by decide +kernel)) ggX11_askForRun_X11_tapeOf
theorem dX11_askForRun_10 : decode cX11_askForRun 10 = .ok (.invokevirtual 86, 3) := by decide +kernel
theorem dX11_askForRun_13 : decode cX11_askForRun 13 = .ok (.aload_n 0, 1) := by decide +kernel
theorem dX11_askForRun_14 : decode cX11_askForRun 14 = .ok (.getfield 33, 3) := by decide +kernel
theorem dX11_askForRun_17 : decode cX11_askForRun 17 = .ok (.aload_n 0, 1) := by decide +kernel
theorem dX11_askForRun_18 : decode cX11_askForRun 18 = .ok (.getfield 47, 3) := by decide +kernel
set_option maxRecDepth 20000 in
theorem ggX11_askForRun_X6_makeRuns : GoodIn wsX11_askForRun wsX6_makeRuns := goodIn_r _ [17, 18, 19, 20, 21, 22, 23, 24, 25, 26, 27, 28, 29, 30, 31, 32, 33, 34, 16, 35, 36, 37, 38, 39, 40, 41, 42, 43, 44, 45, 46, 47, 48, 49, 50, 51, 52, 53, 54, 55, 56, 57, 58, 59, 60, 61, 62, 63, 64, 65, 66, 67, 68, 69, 70, 71, 72, 73, 74, 75, 76, 77, 78, 79, 80, 81, 82, 83, 84, 85, 86, 105, 106, 107, 108, 109, 100, 101, 102, 103, 104, 110, 111, 112, 113, 114, 115, 116, 117] (by decide +kernel) (by decide +kernel)
set_option maxRecDepth 20000 in
theorem gX11_askForRun_X6_makeRuns : GoodIn wsX11_askForRun (wsV RX11 177 RX6 yX6_makeRuns wsX6_makeRuns) := goodIn_app (goodIn_of _ (by decide +kernel)) ggX11_askForRun_X6_makeRuns
theorem dX11_askForRun_21 : decode cX11_askForRun 21 = .ok (.invokevirtual 177, 3) := by decide +kernel
theorem dX11_askForRun_24 : decode cX11_askForRun 24 = .ok (.iload_n 2, 1) := by decide +kernel
theorem dX11_askForRun_25 : decode cX11_askForRun 25 = .ok (.ifCond .lt 14, 3) := by decide +kernel
theorem dX11_askForRun_39 : decode cX11_askForRun 39 = .ok (.new 138, 3) := by decide +kernel
theorem dX11_askForRun_42 : decode cX11_askForRun 42 = .ok (.dup, 1) := by decide +kernel
theorem dX11_askForRun_43 : decode cX11_askForRun 43 = .ok (.ldc_w 357, 3) := by decide +kernel
theorem dX11_askForRun_46 : decode cX11_askForRun 46 = .ok (.invokespecial 142, 3) := by decide +kernel
theorem dX11_askForRun_49 : decode cX11_askForRun 49 = .ok (.athrow, 1) := by decide +kernel
theorem dX11_askForRun_28 : decode cX11_askForRun 28 = .ok (.iload_n 2, 1) := by decide +kernel
theorem dX11_askForRun_29 : decode cX11_askForRun 29 = .ok (.aload_n 0, 1) := by decide +kernel
theorem dX11_askForRun_30 : decode cX11_askForRun 30 = .ok (.getfield 47, 3) := by decide +kernel
theorem dX11_askForRun_33 : decode cX11_askForRun 33 = .ok (.getfield 181, 3) := by decide +kernel
theorem dX11_askForRun_36 : decode cX11_askForRun 36 = .ok (.if_icmp .lt 14, 3) := by decide +kernel
theorem dX11_runLength_0 : decode cX11_runLength 0 = .ok (.aload_n 0, 1) := by decide +kernel
theorem dX11_runLength_1 : decode cX11_runLength 1 = .ok (.iload_n 1, 1) := by decide +kernel
theorem dX11_runLength_2 : decode cX11_runLength 2 = .ok (.iload_n 2, 1) := by decide +kernel
set_option maxRecDepth 20000 in
theorem ggX11_runLength_X11_askForRun : GoodIn wsX11_runLength wsX11_askForRun := goodIn_ca (goodIn_r _ [6, 7, 8, 9, 10, 11, 1, 12, 13, 14, 5, 15, 16, 17, 18, 19, 20, 21, 22, 23, 24, 25, 26, 27, 28, 29, 30, 31, 32, 33, 34, 35, 36, 37, 38, 39, 40, 41, 42, 43, 44, 45, 46, 47, 48, 49, 50, 51, 52, 53, 54, 55, 56, 57, 58, 59, 60, 61, 62, 63, 64, 65, 66, 67, 68, 69, 70, 71, 72, 73, 74, 75, 76, 77, 78, 79, 80, 81, 82, 83, 84, 85, 86, 87, 88, 89, 90, 95, 96, 97, 98, 99, 100, 101, 102, 103, 104, 105, 106, 107, 108, 109, 110, 111, 112, 113, 114, 115, 116, 117, 118, 119, 120, 121, 122, 123, 124, 125] (by decide +kernel) (by decide +kernel)) (goodIn_sub (fun _ h => List.mem_cons_of_mem _ (List.mem_append_right _ h)) (by decide +kernel))
set_option maxRecDepth 20000 in
theorem gX11_runLength_X11_askForRun : GoodIn wsX11_runLength (wsV RX11 182 RX11 yX11_askForRun wsX11_askForRun) := goodIn_app (goodIn_of _ (by decide +kernel)) ggX11_runLength_X11_askForRun
theorem dX11_runLength_3 : decode cX11_runLength 3 = .ok (.invokevirtual 182, 3) := by decide +kernel
theorem dX11_runAt_0 : decode cX11_runAt 0 = .ok (.aload_n 0, 1) := by decide +kernel
theorem dX11_runAt_1 : decode cX11_runAt 1 = .ok (.iload_n 1, 1) := by decide +kernel
theorem dX11_runAt_2 : decode cX11_runAt 2 = .ok (.iload_n 2, 1) := by decide +kernel
set_option maxRecDepth 20000 in
theorem ggX11_runAt_X11_askForRun : GoodIn wsX11_runAt wsX11_askForRun := goodIn_ca (goodIn_r _ [8, 1, 2, 9, 10, 11, 3, 12, 13, 14, 7, 15, 16, 17, 18, 19, 20, 21, 22, 23, 24, 25, 26, 27, 28, 29, 30, 31, 32, 33, 34, 35, 36, 37, 38, 39, 40, 41, 42, 43, 44, 45, 46, 47, 48, 49, 50, 51, 52, 53, 54, 55, 56, 57, 58, 59, 60, 61, 62, 63, 64, 65, 66, 67, 68, 69, 70, 71, 72, 73, 74, 75, 76, 77, 78, 79, 80, 81, 82, 83, 84, 85, 86, 87, 88, 89, 90, 102, 103, 104, 105, 106, 107, 108, 109, 110, 111, 112, 113, 114, 115, 116, 117, 118, 119, 120, 121, 122, 123, 124, 125, 126, 127, 128, 129, 130, 131, 132] (by decide +kernel) (by decide +kernel)) (goodIn_sub (fun _ h => List.mem_cons_of_mem _ (List.mem_append_right _ h)) (by decide +kernel))
set_option maxRecDepth 20000 in
theorem gX11_runAt_X11_askForRun : GoodIn wsX11_runAt (wsV RX11 182 RX11 yX11_askForRun wsX11_askForRun) := goodIn_app (goodIn_of _ (by decide +kernel)) ggX11_runAt_X11_askForRun
theorem dX11_runAt_3 : decode cX11_runAt 3 = .ok (.invokevirtual 182, 3) := by decide +kernel
theorem dX11_demandJobUnderWay_0 : decode cX11_demandJobUnderWay 0 = .ok (.aload_n 0, 1) := by decide +kernel
theorem dX11_demandJobUnderWay_1 : decode cX11_demandJobUnderWay 1 = .ok (.getfield 82, 3) := by decide +kernel
theorem dX11_demandJobUnderWay_4 : decode cX11_demandJobUnderWay 4 = .ok (.ifCond .eq 13, 3) := by decide +kernel
theorem dX11_demandJobUnderWay_17 : decode cX11_demandJobUnderWay 17 = .ok (.new 245, 3) := by decide +kernel
theorem dX11_demandJobUnderWay_20 : decode cX11_demandJobUnderWay 20 = .ok (.dup, 1) := by decide +kernel
theorem dX11_demandJobUnderWay_21 : decode cX11_demandJobUnderWay 21 = .ok (.ldc_w 355, 3) := by decide +kernel
theorem dX11_demandJobUnderWay_24 : decode cX11_demandJobUnderWay 24 = .ok (.invokespecial 249, 3) := by decide +kernel
theorem dX11_demandJobUnderWay_27 : decode cX11_demandJobUnderWay 27 = .ok (.athrow, 1) := by decide +kernel
theorem dX11_plan_0 : decode cX11_plan 0 = .ok (.aload_n 0, 1) := by decide +kernel
theorem dX11_plan_1 : decode cX11_plan 1 = .ok (.iload_n 1, 1) := by decide +kernel
set_option maxRecDepth 20000 in
theorem ggX11_plan_X11_tapeOf : GoodIn wsX11_plan wsX11_tapeOf := goodIn_ca (goodIn_r _ [10, 11, 12, 13, 177, 178, 179, 180, 181, 182, 183, 184, 185, 186, 187, 188, 189] (by decide +kernel) (by decide +kernel)) (goodIn_sub (fun _ h => List.mem_cons_of_mem _ (List.mem_append_left _ (List.mem_append_right _ h))) (by decide +kernel))
set_option maxRecDepth 20000 in
theorem gX11_plan_X11_tapeOf : GoodIn wsX11_plan (wsV RX11 86 RX11 yX11_tapeOf wsX11_tapeOf) := goodIn_app (goodIn_of _ (by decide +kernel)) ggX11_plan_X11_tapeOf
theorem dX11_plan_2 : decode cX11_plan 2 = .ok (.invokevirtual 86, 3) := by decide +kernel
theorem dX11_plan_5 : decode cX11_plan 5 = .ok (.astore_n 3, 1) := by decide +kernel
theorem dX11_plan_6 : decode cX11_plan 6 = .ok (.aload_n 0, 1) := by decide +kernel
theorem dX11_plan_7 : decode cX11_plan 7 = .ok (.iload_n 2, 1) := by decide +kernel
theorem dX11_plan_8 : decode cX11_plan 8 = .ok (.iconst 0, 1) := by decide +kernel
theorem dX11_plan_9 : decode cX11_plan 9 = .ok (.iconst 3, 1) := by decide +kernel
set_option maxRecDepth 20000 in
theorem ggX11_plan_X11_demandRange : GoodIn wsX11_plan wsX11_demandRange := goodIn_ca (goodIn_r _ [17, 18, 19] (by decide +kernel) (by decide +kernel)) (goodIn_sub (fun _ h => List.mem_cons_of_mem _ (List.mem_append_right _ h)) (by decide +kernel))
set_option maxRecDepth 20000 in
theorem gX11_plan_X11_demandRange : GoodIn wsX11_plan (wsV RX11 90 RX11 yX11_demandRange wsX11_demandRange) := goodIn_app (goodIn_of _ (by decide +kernel)) ggX11_plan_X11_demandRange
theorem dX11_plan_10 : decode cX11_plan 10 = .ok (.invokevirtual 90, 3) := by decide +kernel
theorem dX11_plan_13 : decode cX11_plan 13 = .ok (.aload_n 0, 1) := by decide +kernel
theorem dX11_plan_14 : decode cX11_plan 14 = .ok (.getfield 40, 3) := by decide +kernel
theorem dX11_plan_17 : decode cX11_plan 17 = .ok (.aload_n 0, 1) := by decide +kernel
theorem dX11_plan_18 : decode cX11_plan 18 = .ok (.getfield 10, 3) := by decide +kernel
theorem dX11_plan_21 : decode cX11_plan 21 = .ok (.aload_n 3, 1) := by decide +kernel
theorem dX11_plan_22 : decode cX11_plan 22 = .ok (.aload_n 0, 1) := by decide +kernel
theorem dX11_plan_23 : decode cX11_plan 23 = .ok (.getfield 33, 3) := by decide +kernel
theorem dX11_plan_26 : decode cX11_plan 26 = .ok (.aload_n 0, 1) := by decide +kernel
theorem dX11_plan_27 : decode cX11_plan 27 = .ok (.getfield 47, 3) := by decide +kernel
set_option maxRecDepth 20000 in
theorem ggX11_plan_X6_makeRuns : GoodIn wsX11_plan wsX6_makeRuns := goodIn_r _ [24, 25, 26, 27, 28, 29, 30, 31, 32, 33, 34, 35, 36, 37, 38, 39, 40, 41, 23, 42, 43, 44, 45, 46, 47, 48, 49, 50, 51, 52, 53, 54, 55, 56, 57, 58, 59, 60, 61, 62, 63, 64, 65, 66, 67, 68, 69, 70, 71, 72, 73, 74, 75, 76, 77, 78, 79, 80, 81, 82, 83, 84, 85, 86, 87, 88, 89, 90, 91, 92, 93, 204, 205, 206, 207, 208, 209, 210, 211, 212, 213, 214, 215, 216, 217, 218, 219, 220, 221] (by decide +kernel) (by decide +kernel)
set_option maxRecDepth 20000 in
theorem gX11_plan_X6_makeRuns : GoodIn wsX11_plan (wsV RX11 177 RX6 yX6_makeRuns wsX6_makeRuns) := goodIn_app (goodIn_of _ (by decide +kernel)) ggX11_plan_X6_makeRuns
theorem dX11_plan_30 : decode cX11_plan 30 = .ok (.invokevirtual 177, 3) := by decide +kernel
theorem dX11_plan_33 : decode cX11_plan 33 = .ok (.aload_n 0, 1) := by decide +kernel
theorem dX11_plan_34 : decode cX11_plan 34 = .ok (.getfield 54, 3) := by decide +kernel
theorem dX11_plan_37 : decode cX11_plan 37 = .ok (.aload_n 0, 1) := by decide +kernel
theorem dX11_plan_38 : decode cX11_plan 38 = .ok (.getfield 47, 3) := by decide +kernel
theorem dX11_plan_41 : decode cX11_plan 41 = .ok (.aload_n 0, 1) := by decide +kernel
theorem dX11_plan_42 : decode cX11_plan 42 = .ok (.getfield 33, 3) := by decide +kernel
set_option maxRecDepth 20000 in
theorem ggX11_plan_X4_tell : GoodIn wsX11_plan wsX4_tell := goodIn_r _ [98, 99, 100, 101, 102, 103, 104, 105, 106, 107, 108, 109, 110, 26, 27, 28, 111, 30, 31, 112, 113, 114, 115, 116, 117, 118, 119, 120, 121, 122, 97, 123, 124, 125, 126, 127, 128, 35, 129, 37, 67, 130, 131, 132, 133, 134, 135, 136, 137, 138, 139, 140, 141, 142, 143, 144, 145, 146, 147, 148, 149, 150, 151, 152, 153, 154, 155, 156, 157, 158, 159, 160, 161, 162, 163, 164, 165, 166, 167, 168, 169, 170, 171, 172, 173, 174, 175, 176, 190, 191, 192, 193, 194, 195, 196, 197, 209, 210, 211, 212, 213, 204, 205, 206, 207, 208, 198, 199, 200, 201, 202, 203] (by decide +kernel) (by decide +kernel)
set_option maxRecDepth 20000 in
theorem gX11_plan_X4_tell : GoodIn wsX11_plan (wsV RX11 195 RX4 yX4_tell wsX4_tell) := goodIn_app (goodIn_of _ (by decide +kernel)) ggX11_plan_X4_tell
theorem dX11_plan_45 : decode cX11_plan 45 = .ok (.invokevirtual 195, 3) := by decide +kernel
theorem dX11_plan_48 : decode cX11_plan 48 = .ok (.iload_n 2, 1) := by decide +kernel
theorem dX11_plan_49 : decode cX11_plan 49 = .ok (.tableswitch 51 0 2 #[27, 35, 43], 27) := by decide +kernel
theorem dX11_plan_76 : decode cX11_plan 76 = .ok (.aload_n 0, 1) := by decide +kernel
theorem dX11_plan_77 : decode cX11_plan 77 = .ok (.getfield 54, 3) := by decide +kernel
theorem dX11_plan_80 : decode cX11_plan 80 = .ok (.getfield 199, 3) := by decide +kernel
theorem dX11_plan_83 : decode cX11_plan 83 = .ok (.ireturn, 1) := by decide +kernel
theorem dX11_plan_84 : decode cX11_plan 84 = .ok (.aload_n 0, 1) := by decide +kernel
theorem dX11_plan_85 : decode cX11_plan 85 = .ok (.getfield 54, 3) := by decide +kernel
theorem dX11_plan_88 : decode cX11_plan 88 = .ok (.getfield 202, 3) := by decide +kernel
theorem dX11_plan_91 : decode cX11_plan 91 = .ok (.ireturn, 1) := by decide +kernel
theorem dX11_plan_92 : decode cX11_plan 92 = .ok (.aload_n 0, 1) := by decide +kernel
theorem dX11_plan_93 : decode cX11_plan 93 = .ok (.getfield 54, 3) := by decide +kernel
theorem dX11_plan_96 : decode cX11_plan 96 = .ok (.getfield 205, 3) := by decide +kernel
theorem dX11_plan_99 : decode cX11_plan 99 = .ok (.ireturn, 1) := by decide +kernel
theorem dX11_plan_100 : decode cX11_plan 100 = .ok (.aload_n 0, 1) := by decide +kernel
theorem dX11_plan_101 : decode cX11_plan 101 = .ok (.getfield 54, 3) := by decide +kernel
theorem dX11_plan_104 : decode cX11_plan 104 = .ok (.getfield 208, 3) := by decide +kernel
theorem dX11_plan_107 : decode cX11_plan 107 = .ok (.getfield 212, 3) := by decide +kernel
theorem dX11_plan_110 : decode cX11_plan 110 = .ok (.ireturn, 1) := by decide +kernel
theorem dX11_work_0 : decode cX11_work 0 = .ok (.aload_n 0, 1) := by decide +kernel
theorem dX11_work_1 : decode cX11_work 1 = .ok (.iload_n 1, 1) := by decide +kernel
theorem dX11_work_2 : decode cX11_work 2 = .ok (.iconst 1, 1) := by decide +kernel
theorem dX11_work_3 : decode cX11_work 3 = .ok (.sipush 200, 3) := by decide +kernel
set_option maxRecDepth 20000 in
theorem ggX11_work_X11_demandRange : GoodIn wsX11_work wsX11_demandRange := goodIn_ca (goodIn_r _ [6, 7, 8] (by decide +kernel) (by decide +kernel)) (goodIn_sub (fun _ h => List.mem_cons_of_mem _ (List.mem_append_left _ (List.mem_append_left _ (List.mem_append_right _ h)))) (by decide +kernel))
set_option maxRecDepth 20000 in
theorem gX11_work_X11_demandRange : GoodIn wsX11_work (wsV RX11 90 RX11 yX11_demandRange wsX11_demandRange) := goodIn_app (goodIn_of _ (by decide +kernel)) ggX11_work_X11_demandRange
theorem dX11_work_6 : decode cX11_work 6 = .ok (.invokevirtual 90, 3) := by decide +kernel
theorem dX11_work_9 : decode cX11_work 9 = .ok (.aload_n 0, 1) := by decide +kernel
set_option maxRecDepth 20000 in
theorem ggX11_work_X11_demandJobUnderWay : GoodIn wsX11_work wsX11_demandJobUnderWay := goodIn_ca (goodIn_r _ [12, 13, 14, 15, 1, 16, 17, 18, 19, 20, 21, 150, 151, 152, 153, 154, 155, 156, 157, 158, 159, 160, 161, 162, 163, 164, 165, 166, 167, 168, 169, 170, 171, 172, 173, 174, 175, 176, 177, 178, 179, 180, 181, 182] (by decide +kernel) (by decide +kernel)) (goodIn_sub (fun _ h => List.mem_cons_of_mem _ (List.mem_append_left _ (List.mem_append_right _ h))) (by decide +kernel))
set_option maxRecDepth 20000 in
theorem gX11_work_X11_demandJobUnderWay : GoodIn wsX11_work (wsV RX11 232 RX11 yX11_demandJobUnderWay wsX11_demandJobUnderWay) := goodIn_app (goodIn_of _ (by decide +kernel)) ggX11_work_X11_demandJobUnderWay
theorem dX11_work_10 : decode cX11_work 10 = .ok (.invokevirtual 232, 3) := by decide +kernel
theorem dX11_job_0 : decode cX11_job 0 = .ok (.aload_n 0, 1) := by decide +kernel
theorem dX11_job_1 : decode cX11_job 1 = .ok (.iload_n 1, 1) := by decide +kernel
theorem dX11_job_2 : decode cX11_job 2 = .ok (.iconst 0, 1) := by decide +kernel
theorem dX11_job_3 : decode cX11_job 3 = .ok (.bipush 7, 2) := by decide +kernel
set_option maxRecDepth 20000 in
theorem ggX11_job_X11_demandRange : GoodIn wsX11_job wsX11_demandRange := goodIn_ca (goodIn_r _ [9, 10, 11] (by decide +kernel) (by decide +kernel)) (goodIn_sub (fun _ h => List.mem_cons_of_mem _ (List.mem_append_right _ h)) (by decide +kernel))
set_option maxRecDepth 20000 in
theorem gX11_job_X11_demandRange : GoodIn wsX11_job (wsV RX11 90 RX11 yX11_demandRange wsX11_demandRange) := goodIn_app (goodIn_of _ (by decide +kernel)) ggX11_job_X11_demandRange
theorem dX11_job_5 : decode cX11_job 5 = .ok (.invokevirtual 90, 3) := by decide +kernel
theorem dX11_job_8 : decode cX11_job 8 = .ok (.aload_n 0, 1) := by decide +kernel
theorem dX11_job_9 : decode cX11_job 9 = .ok (.getfield 82, 3) := by decide +kernel
theorem dX11_job_12 : decode cX11_job 12 = .ok (.ifCond .ne 13, 3) := by decide +kernel
theorem dX11_job_15 : decode cX11_job 15 = .ok (.new 245, 3) := by decide +kernel
theorem dX11_job_18 : decode cX11_job 18 = .ok (.dup, 1) := by decide +kernel
theorem dX11_job_19 : decode cX11_job 19 = .ok (.ldc 247, 2) := by decide +kernel
theorem dX11_job_21 : decode cX11_job 21 = .ok (.invokespecial 249, 3) := by decide +kernel
theorem dX11_job_24 : decode cX11_job 24 = .ok (.athrow, 1) := by decide +kernel
theorem dX11_tear_0 : decode cX11_tear 0 = .ok (.aload_n 0, 1) := by decide +kernel
set_option maxRecDepth 20000 in
theorem ggX11_tear_X11_demandJobUnderWay : GoodIn wsX11_tear wsX11_demandJobUnderWay := goodIn_ca (goodIn_r _ [6, 7, 8, 9, 1, 10, 11, 12, 13, 14, 15, 31, 32, 33, 34, 35, 36, 37, 38, 39, 40, 41, 42, 43, 44, 45, 46, 47, 48, 49, 50, 51, 52, 53, 54, 55, 56, 57, 58, 59, 60, 61, 62, 63] (by decide +kernel) (by decide +kernel)) (goodIn_sub (fun _ h => List.mem_cons_of_mem _ (List.mem_append_right _ h)) (by decide +kernel))
set_option maxRecDepth 20000 in
theorem gX11_tear_X11_demandJobUnderWay : GoodIn wsX11_tear (wsV RX11 232 RX11 yX11_demandJobUnderWay wsX11_demandJobUnderWay) := goodIn_app (goodIn_of _ (by decide +kernel)) ggX11_tear_X11_demandJobUnderWay
theorem dX11_tear_1 : decode cX11_tear 1 = .ok (.invokevirtual 232, 3) := by decide +kernel
set_option maxHeartbeats 4000000 in
set_option maxRecDepth 100000 in
theorem c_X0_has (l : Launch) (dC : Nat → ClassId) (dI : Nat → Nat → Nat) (g : Nat → ClassId) (Wd : va_W) (t : Nat) (k1 : Nat) (k2 : Nat) (x : Int32) (k0 : Nat) (w0 : Wd[k0]? = some (t, .inr (2, [.ref k1, .ref k2, .int 0]))) (sz : Nat) : Met l yX0_has wsX0_has ({ frames := 0, cells := 0, slots := 0, locals := 0 }) (va_Pc [.ref t, .int x] (PG (dC, dI) g Wd sz)) (va_Qi (fun (r : Int32) (_ : Unit) => r = 0) (fun (_ : Unit) t => va_P (dC, dI) vwCl Wd t.heap) (va_A Wd sz)) 0 0 (va_A Wd sz) := by
  refine Met.ofW (cc := cX0_has) (maxL := 2) (ret := (some .boolean)) (by decide) rfl ?_
  intro p e s m args below meth c s₁ B hml hv
  obtain ⟨rfl, hsz, hP, hK, hD0, hG⟩ := hv
  have hx := B.exec
  have hb := B.bytes
  have hr := B.returns
  have hts := atoms_spec (ws := wsX0_has) B.pre
  have hown : s.vm.findClass RX0 = some m.cls := findClass_of_methodNamed B.named
  have hlocks := B.notSynchronized
  subst hsz
  have hD := hD0.self (sz := s.heap.size)
  generalize hAe : va_A Wd s.heap.size = A at hD hG ⊢
  have hA : ∀ q : Nat, s.heap.size ≤ q → A q := fun q h => by rw [← hAe]; exact Or.inr h
  have hS : va_S A s.heap s.heap [] := va_S.rf
  have hl := lv_entry ([.ref t, .int x]) (n := 2) (Nat.le_of_ble_eq_true rfl)
  rw [lg_entry_eq]
  generalize (lg_sl ([.ref t, .int x]) ++ List.replicate (2 - (lg_sl ([.ref t, .int x])).length) Slot.unset).toArray = ls at hl ⊢
  have hl : lv_has ls 2 [(0, .ref t), (1, .int x)] := hl
  have hf18 := hts (Cond.fieldLink RX0 18 "RunmergeOffice$Book" "count" "I") (by decide +kernel)
  have hiX0 : ∀ w ∈ u_ws RX0 TX0 3, w ∈ wsX0_has := by decide +kernel
  refine lv_iload_n hx hb dX0_has_0 rfl (lv_at hl 1 rfl) ?_
  refine lv_if_lt (tgt := 16) hx hb dX0_has_1 (by decide) (fun c_1 => ?_) (fun c_1 => ?_)
  · refine lv_iconst (v := 0) hx hb dX0_has_16 (by decide) ?_
    exact W.zret (v := 0) hx hb hr rfl (fun t ht hW => ⟨⟨0, (), rfl, rfl, P_at ht hP⟩, hS.F ht⟩) hS.2.2 dX0_has_17
  · refine lv_iload_n hx hb dX0_has_4 rfl (lv_at hl 1 rfl) ?_
    refine lv_aload_n hx hb dX0_has_5 rfl (lv_at hl 0 rfl) ?_
    refine va_get (D := (dC, dI)) (ci := 2) (v := .int 0) (C := RX0) (T := TX0) (N := 3) hx hb hts hiX0 hown hK hP k0 w0 rfl 2 (by decide) hf18 (fun _ h9 => h9) rfl dX0_has_6 ?_
    refine lv_icmp_ge (tgt := 16) hx hb dX0_has_9 (by decide) (fun c_2 => ?_) (fun c_2 => absurd (i_nlt.mp c_1) c_2)
    refine lv_iconst (v := 0) hx hb dX0_has_16 (by decide) ?_
    exact W.zret (v := 0) hx hb hr rfl (fun t ht hW => ⟨⟨0, (), rfl, rfl, P_at ht hP⟩, hS.F ht⟩) hS.2.2 dX0_has_17
set_option maxHeartbeats 4000000 in
set_option maxRecDepth 100000 in
theorem c_X11_demandRecord (l : Launch) (hlf : l.stackTraces = false) (dC : Nat → ClassId) (dI : Nat → Nat → Nat) (g : Nat → ClassId) (a : Nat → Nat) (x : Int32) (sz : Nat) : vx_Met l yX11_demandRecord wsX11_demandRecord ({ frames := 6, cells := 1, slots := 6, locals := 82 }) (va_Pc [.ref (a 0), .int x] (PG (dC, dI) g (offW a g) sz)) (va_Qv (fun (_ : Unit) => False) (fun (_ : Unit) (_ : State) => True) (va_A (offW a g) sz)) (vx_X (fun _ : Unit => True) (fun E _ _ => E = "java/lang/IndexOutOfBoundsException") (va_A (offW a g) sz)) 1 6 (va_A (offW a g) sz) := by
  refine vx_ofW (cc := cX11_demandRecord) (maxL := 2) (ret := none) (by decide) rfl ?_
  intro p e s m args below meth c s₁ B hml hno hv
  obtain ⟨rfl, hsz, hP, hK, hD0, hG⟩ := hv
  have hx := B.exec
  have hb := B.bytes
  have hr := B.returns
  have hts := atoms_spec (ws := wsX11_demandRecord) B.pre
  have hown : s.vm.findClass RX11 = some m.cls := findClass_of_methodNamed B.named
  have hlocks := B.notSynchronized
  subst hsz
  have hD := hD0.self (sz := s.heap.size)
  generalize hAe : va_A (offW a g) s.heap.size = A at hD hG ⊢
  have hA : ∀ q : Nat, s.heap.size ≤ q → A q := fun q h => by rw [← hAe]; exact Or.inr h
  have hS : va_S A s.heap s.heap [] := va_S.rf
  have hl := lv_entry ([.ref (a 0), .int x]) (n := 2) (Nat.le_of_ble_eq_true rfl)
  rw [lg_entry_eq]
  generalize (lg_sl ([.ref (a 0), .int x]) ++ List.replicate (2 - (lg_sl ([.ref (a 0), .int x])).length) Slot.unset).toArray = ls at hl ⊢
  have hl : lv_has ls 2 [(0, .ref (a 0)), (1, .int x)] := hl
  have hf10 := hts (Cond.fieldLink RX11 10 "RunmergeOffice" "book" "LRunmergeOffice$Book;") (by decide +kernel)
  have hiX11 : ∀ w ∈ u_ws RX11 TX11 13, w ∈ wsX11_demandRecord := by decide +kernel
  have hcl138 := hts (Cond.classLink RX11 138 "java/lang/IndexOutOfBoundsException") (by decide +kernel)
  have hini_IndexOutOfBoundsException := hts (Cond.initialized "java/lang/IndexOutOfBoundsException") (by decide +kernel)
  refine lv_aload_n hx hb dX11_demandRecord_0 rfl (lv_at hl 0 rfl) ?_
  refine va_get (D := (dC, dI)) (ci := 13) (v := .ref (a 1)) (C := RX11) (T := TX11) (N := 13) hx hb hts hiX11 hown hK hP 0 (o_0 a g) rfl 0 (by decide) hf10 (fun _ h9 => h9) rfl dX11_demandRecord_1 ?_
  refine lv_iload_n hx hb dX11_demandRecord_4 rfl (lv_at hl 1 rfl) ?_
  refine va_calli (va_runV (As := [.int x]) (rest := []) ⟨hx, hb, hml, hown, hts⟩ (c_X0_has l dC dI g (offW a g) (a 1) (a 2) (a 3) x 1 (o_1 a g)  s.heap.size) (cwV 1 hts gX11_demandRecord_X0_has rfl rfl rfl (by decide +kernel) ⟨Nat.le_of_ble_eq_true rfl, Nat.le_of_ble_eq_true rfl⟩) ⟨PG_blind, va_recv hK hP (ci := 2) (q0 := 1) rfl (o_1 a g), PG_call hK hG hS hP hD (A_all hD hA hS.1)⟩ rfl rfl hl.1 rfl (lv_room (Nat.le_of_ble_eq_true rfl)) dX11_demandRecord_5 ⟨Nat.le_of_ble_eq_true rfl, Nat.le_of_ble_eq_true rfl⟩) hS (fun q _ h => (A_all hD hA hS.1) q h) (A_all hD hA hS.1) (fun r_1 u_1 t_1 H_1 L_1 ht_1 hvm_1 hw_1 hB_1 hz_1 hk_1 hS => ?_)
  replace hB_1 := (show va_P (dC, dI) vwCl (offW a g) t_1.heap from hB_1)
  rw [ht_1] at hB_1
  have hP := hB_1
  obtain rfl : r_1 = 0 := hw_1
  refine lv_if_ne (tgt := 22) hx hb dX11_demandRecord_8 (by decide) (fun c_2 => absurd (by decide) c_2) (fun c_2 => ?_)
  obtain ⟨sa, hsa⟩ := st_22 hG
  exact vx_throwSW hx hb hlf (own := RX11) (cls := "java/lang/IndexOutOfBoundsException") (text := "there is no such record") (names := ["java/lang/RuntimeException", "java/lang/Exception"]) (ik := 138) (is := 349) (ic := 142) hown rfl (by decide) hcl138 hini_IndexOutOfBoundsException hsa (vx_hat (B := [.castable "java/lang/IndexOutOfBoundsException" "java/lang/IndexOutOfBoundsException", .declares (Bundle.initS "java/lang/RuntimeException"), .declares (Bundle.initS "java/lang/Exception"), .declares (Bundle.initS "java/lang/Throwable")]) (fun w h => hts w (List.mem_cons_of_mem _ (by first | exact List.mem_append_right _ h | exact List.mem_append_left _ (List.mem_append_right _ h) | exact List.mem_append_left _ (List.mem_append_left _ (List.mem_append_right _ h))))) (by decide +kernel) (vx_c (xc_0 hG) (vx_c (dc_0 hG) (vx_c (dc_1 hG) (vx_c (dc_2 hG) vx_n))))) (by decide +kernel) hG.2.2.2.1 hG.2.2.2.2.1 hS (hl.1.trans hml.symm) dX11_demandRecord_11 dX11_demandRecord_14 dX11_demandRecord_15 dX11_demandRecord_18 dX11_demandRecord_21 (fun x hx => (hno x hx).elim) (Nat.le_of_ble_eq_true rfl) (Nat.le_of_ble_eq_true rfl) (Nat.le_of_ble_eq_true rfl) (Nat.le_of_ble_eq_true rfl) hlocks (fun t hW hz hk => ⟨(), trivial, rfl, F_of hS hz hk⟩) hS.2.2 (Nat.le_of_ble_eq_true rfl) (Nat.le_of_ble_eq_true rfl)
set_option maxHeartbeats 4000000 in
set_option maxRecDepth 100000 in
theorem c_X11_key (l : Launch) (hlf : l.stackTraces = false) (dC : Nat → ClassId) (dI : Nat → Nat → Nat) (g : Nat → ClassId) (a : Nat → Nat) (x : Int32) (sz : Nat) : vx_Met l yX11_key wsX11_key ({ frames := 7, cells := 1, slots := 6, locals := 103 }) (va_Pc [.ref (a 0), .int x] (PG (dC, dI) g (offW a g) sz)) (va_Qi (fun (_ : Int32) (_ : Unit) => False) (fun (_ : Unit) (_ : State) => True) (va_A (offW a g) sz)) (vx_X (fun _ : Unit => True) (fun E _ _ => E = "java/lang/IndexOutOfBoundsException") (va_A (offW a g) sz)) 1 6 (va_A (offW a g) sz) := by
  refine vx_ofW (cc := cX11_key) (maxL := 2) (ret := (some .int)) (by decide) rfl ?_
  intro p e s m args below meth c s₁ B hml hno hv
  obtain ⟨rfl, hsz, hP, hK, hD0, hG⟩ := hv
  have hx := B.exec
  have hb := B.bytes
  have hr := B.returns
  have hts := atoms_spec (ws := wsX11_key) B.pre
  have hown : s.vm.findClass RX11 = some m.cls := findClass_of_methodNamed B.named
  have hlocks := B.notSynchronized
  subst hsz
  have hD := hD0.self (sz := s.heap.size)
  generalize hAe : va_A (offW a g) s.heap.size = A at hD hG ⊢
  have hA : ∀ q : Nat, s.heap.size ≤ q → A q := fun q h => by rw [← hAe]; exact Or.inr h
  have hS : va_S A s.heap s.heap [] := va_S.rf
  have hl := lv_entry ([.ref (a 0), .int x]) (n := 2) (Nat.le_of_ble_eq_true rfl)
  rw [lg_entry_eq]
  generalize (lg_sl ([.ref (a 0), .int x]) ++ List.replicate (2 - (lg_sl ([.ref (a 0), .int x])).length) Slot.unset).toArray = ls at hl ⊢
  have hl : lv_has ls 2 [(0, .ref (a 0)), (1, .int x)] := hl
  refine lv_aload_n hx hb dX11_key_0 rfl (lv_at hl 0 rfl) ?_
  refine lv_iload_n hx hb dX11_key_1 rfl (lv_at hl 1 rfl) ?_
  refine vx_callv (vx_runV (As := [.int x]) (rest := []) ⟨hx, hb, hml, hown, hts⟩ (c_X11_demandRecord l hlf dC dI g a x  s.heap.size) (cwV 1 hts gX11_key_X11_demandRecord rfl rfl rfl (by decide +kernel) ⟨Nat.le_of_ble_eq_true rfl, Nat.le_of_ble_eq_true rfl⟩) ⟨PG_blind, va_recv hK hP (ci := 13) (q0 := 0) rfl (o_0 a g), PG_call hK hG hS hP hD (A_all hD hA hS.1)⟩ rfl rfl hl.1 rfl (lv_room (Nat.le_of_ble_eq_true rfl)) dX11_key_2 ⟨Nat.le_of_ble_eq_true rfl, Nat.le_of_ble_eq_true rfl⟩) hS (fun q _ h => (A_all hD hA hS.1) q h) (A_all hD hA hS.1) (fun q _ h => (A_all hD hA hS.1) q h) (fun E ce q9 u t H1 locs1 ht hvm hp9 hB9 hz hk hS9 hce hcv hcl => ?_) (fun u_1 t_1 H_1 L_1 ht_1 hvm_1 hw_1 hB_1 hz_1 hk_1 hS => ?_)
  · exact vx_out (fun x hx => (hno x hx).elim) hlocks hce hcv hcl (fun t ht hW => ⟨(), trivial, hB9, hS9.F ht⟩) hS9.2.2 (Nat.le_of_ble_eq_true rfl) (Nat.le_of_ble_eq_true rfl)
  · exact (hw_1).elim
set_option maxHeartbeats 4000000 in
set_option maxRecDepth 100000 in
theorem c_X11_mark (l : Launch) (hlf : l.stackTraces = false) (dC : Nat → ClassId) (dI : Nat → Nat → Nat) (g : Nat → ClassId) (a : Nat → Nat) (x : Int32) (sz : Nat) : vx_Met l yX11_mark wsX11_mark ({ frames := 7, cells := 1, slots := 6, locals := 103 }) (va_Pc [.ref (a 0), .int x] (PG (dC, dI) g (offW a g) sz)) (va_Qi (fun (_ : Int32) (_ : Unit) => False) (fun (_ : Unit) (_ : State) => True) (va_A (offW a g) sz)) (vx_X (fun _ : Unit => True) (fun E _ _ => E = "java/lang/IndexOutOfBoundsException") (va_A (offW a g) sz)) 1 6 (va_A (offW a g) sz) := by
  refine vx_ofW (cc := cX11_mark) (maxL := 2) (ret := (some .int)) (by decide) rfl ?_
  intro p e s m args below meth c s₁ B hml hno hv
  obtain ⟨rfl, hsz, hP, hK, hD0, hG⟩ := hv
  have hx := B.exec
  have hb := B.bytes
  have hr := B.returns
  have hts := atoms_spec (ws := wsX11_mark) B.pre
  have hown : s.vm.findClass RX11 = some m.cls := findClass_of_methodNamed B.named
  have hlocks := B.notSynchronized
  subst hsz
  have hD := hD0.self (sz := s.heap.size)
  generalize hAe : va_A (offW a g) s.heap.size = A at hD hG ⊢
  have hA : ∀ q : Nat, s.heap.size ≤ q → A q := fun q h => by rw [← hAe]; exact Or.inr h
  have hS : va_S A s.heap s.heap [] := va_S.rf
  have hl := lv_entry ([.ref (a 0), .int x]) (n := 2) (Nat.le_of_ble_eq_true rfl)
  rw [lg_entry_eq]
  generalize (lg_sl ([.ref (a 0), .int x]) ++ List.replicate (2 - (lg_sl ([.ref (a 0), .int x])).length) Slot.unset).toArray = ls at hl ⊢
  have hl : lv_has ls 2 [(0, .ref (a 0)), (1, .int x)] := hl
  refine lv_aload_n hx hb dX11_mark_0 rfl (lv_at hl 0 rfl) ?_
  refine lv_iload_n hx hb dX11_mark_1 rfl (lv_at hl 1 rfl) ?_
  refine vx_callv (vx_runV (As := [.int x]) (rest := []) ⟨hx, hb, hml, hown, hts⟩ (c_X11_demandRecord l hlf dC dI g a x  s.heap.size) (cwV 1 hts gX11_mark_X11_demandRecord rfl rfl rfl (by decide +kernel) ⟨Nat.le_of_ble_eq_true rfl, Nat.le_of_ble_eq_true rfl⟩) ⟨PG_blind, va_recv hK hP (ci := 13) (q0 := 0) rfl (o_0 a g), PG_call hK hG hS hP hD (A_all hD hA hS.1)⟩ rfl rfl hl.1 rfl (lv_room (Nat.le_of_ble_eq_true rfl)) dX11_mark_2 ⟨Nat.le_of_ble_eq_true rfl, Nat.le_of_ble_eq_true rfl⟩) hS (fun q _ h => (A_all hD hA hS.1) q h) (A_all hD hA hS.1) (fun q _ h => (A_all hD hA hS.1) q h) (fun E ce q9 u t H1 locs1 ht hvm hp9 hB9 hz hk hS9 hce hcv hcl => ?_) (fun u_1 t_1 H_1 L_1 ht_1 hvm_1 hw_1 hB_1 hz_1 hk_1 hS => ?_)
  · exact vx_out (fun x hx => (hno x hx).elim) hlocks hce hcv hcl (fun t ht hW => ⟨(), trivial, hB9, hS9.F ht⟩) hS9.2.2 (Nat.le_of_ble_eq_true rfl) (Nat.le_of_ble_eq_true rfl)
  · exact (hw_1).elim
set_option maxHeartbeats 4000000 in
set_option maxRecDepth 100000 in
theorem c_X11_at (l : Launch) (hlf : l.stackTraces = false) (dC : Nat → ClassId) (dI : Nat → Nat → Nat) (g : Nat → ClassId) (a : Nat → Nat) (x : Int32) (pl : Int32) (sz : Nat) : vx_Met l yX11_at wsX11_at ({ frames := 7, cells := 8, slots := 48, locals := 103 }) (va_Pc [.ref (a 0), .int x, .int pl] (PG (dC, dI) g (offW a g) sz)) (va_Qi (fun (_ : Int32) (_ : Unit) => False) (fun (_ : Unit) (_ : State) => True) (va_A (offW a g) sz)) (vx_X (fun _ : Unit => True) (fun E _ _ => E = "java/lang/IndexOutOfBoundsException") (va_A (offW a g) sz)) 8 48 (va_A (offW a g) sz) := by
  refine vx_ofW (cc := cX11_at) (maxL := 4) (ret := (some .int)) (by decide) rfl ?_
  intro p e s m args below meth c s₁ B hml hno hv
  obtain ⟨rfl, hsz, hP, hK, hD0, hG⟩ := hv
  have hx := B.exec
  have hb := B.bytes
  have hr := B.returns
  have hts := atoms_spec (ws := wsX11_at) B.pre
  have hown : s.vm.findClass RX11 = some m.cls := findClass_of_methodNamed B.named
  have hlocks := B.notSynchronized
  subst hsz
  have hD := hD0.self (sz := s.heap.size)
  generalize hAe : va_A (offW a g) s.heap.size = A at hD hG ⊢
  have hA : ∀ q : Nat, s.heap.size ≤ q → A q := fun q h => by rw [← hAe]; exact Or.inr h
  have hS : va_S A s.heap s.heap [] := va_S.rf
  have hl := lv_entry ([.ref (a 0), .int x, .int pl]) (n := 4) (Nat.le_of_ble_eq_true rfl)
  rw [lg_entry_eq]
  generalize (lg_sl ([.ref (a 0), .int x, .int pl]) ++ List.replicate (4 - (lg_sl ([.ref (a 0), .int x, .int pl])).length) Slot.unset).toArray = ls at hl ⊢
  have hl : lv_has ls 4 [(0, .ref (a 0)), (1, .int x), (2, .int pl)] := hl
  have hcl138 := hts (Cond.classLink RX11 138 "java/lang/IndexOutOfBoundsException") (by decide +kernel)
  have hini_IndexOutOfBoundsException := hts (Cond.initialized "java/lang/IndexOutOfBoundsException") (by decide +kernel)
  have hiX9 : ∀ w ∈ u_ws RX9 TX9 2, w ∈ wsX11_at := by decide +kernel
  refine lv_aload_n hx hb dX11_at_0 rfl (lv_at hl 0 rfl) ?_
  refine lv_iload_n hx hb dX11_at_1 rfl (lv_at hl 1 rfl) ?_
  refine vx_callq (vx_runV (As := [.int x]) (rest := []) ⟨hx, hb, hml, hown, hts⟩ (c_X11_tapeOf l hlf dC dI g (offW a g) (a 0) (a 1) (a 4) (a 5) (a 6) (a 8) (a 9) (a 12) (a 16) (a 22) (a 43) (a 64) (a 69) 0 (va_up (va_up (va_up (va_up (va_up (va_up (va_up (va_up (fun _ => none) 0 (some (a 108))) 1 (some (a 109))) 2 (some (a 110))) 3 (some (a 111))) 4 (some (a 112))) 5 (some (a 113))) 6 (some (a 114))) 7 (some (a 115))) (fun j => a (108 + j)) x 0 (o_0 a g) 4 (o_4 a g) (tp_at a) s.heap.size) (cwV 1 hts gX11_at_X11_tapeOf rfl rfl rfl (by decide +kernel) ⟨Nat.le_of_ble_eq_true rfl, Nat.le_of_ble_eq_true rfl⟩) ⟨PG_blind, va_recv hK hP (ci := 13) (q0 := 0) rfl (o_0 a g), PG_call hK hG hS hP hD (A_all hD hA hS.1)⟩ rfl rfl hl.1 rfl (lv_room (Nat.le_of_ble_eq_true rfl)) dX11_at_2 ⟨Nat.le_of_ble_eq_true rfl, Nat.le_of_ble_eq_true rfl⟩) hS (fun q _ h => (A_all hD hA hS.1) q h) (A_all hD hA hS.1) (fun q _ h => (A_all hD hA hS.1) q h) (fun E ce q9 u t H1 locs1 ht hvm hp9 hB9 hz hk hS9 hce hcv hcl => ?_) (fun r_1 u_1 t_1 H_1 L_1 ht_1 hvm_1 hw_1 hB_1 hz_1 hk_1 hS => ?_)
  · exact vx_out (fun x hx => (hno x hx).elim) hlocks hce hcv hcl (fun t ht hW => ⟨(), trivial, hB9.1, hS9.F ht⟩) hS9.2.2 (Nat.le_of_ble_eq_true rfl) (Nat.le_of_ble_eq_true rfl)
  replace hB_1 := (show va_P (dC, dI) vwCl (offW a g) t_1.heap from hB_1)
  rw [ht_1] at hB_1
  have hP := hB_1
  obtain ⟨j_1, hj_1, ex_1, rfl⟩ := hw_1
  have w_1 := o_tape a g j_1 hj_1
  refine lv_astore_n (lv' := [(3, .ref (a (108 + j_1))), (0, .ref (a 0)), (1, .int x), (2, .int pl)]) hx hb dX11_at_5 rfl hl (by decide) rfl (fun ls hl => ?_)
  refine lv_iload_n hx hb dX11_at_6 rfl (lv_at hl 3 rfl) ?_
  refine lv_if_lt (tgt := 18) hx hb dX11_at_7 (by decide) (fun c_2 => ?_) (fun c_2 => ?_)
  · obtain ⟨sa, hsa⟩ := st_23 hG
    exact vx_throwS hx hb hlf (own := RX11) (cls := "java/lang/IndexOutOfBoundsException") (text := "there is no such place") (names := ["java/lang/RuntimeException", "java/lang/Exception"]) (ik := 138) (is := 140) (ic := 142) hown rfl (by decide) hcl138 hini_IndexOutOfBoundsException hsa (vx_hat (B := [.castable "java/lang/IndexOutOfBoundsException" "java/lang/IndexOutOfBoundsException", .declares (Bundle.initS "java/lang/RuntimeException"), .declares (Bundle.initS "java/lang/Exception"), .declares (Bundle.initS "java/lang/Throwable")]) (fun w h => hts w (List.mem_cons_of_mem _ (by first | exact List.mem_append_right _ h | exact List.mem_append_left _ (List.mem_append_right _ h) | exact List.mem_append_left _ (List.mem_append_left _ (List.mem_append_right _ h))))) (by decide +kernel) (vx_c (xc_0 hG) (vx_c (dc_0 hG) (vx_c (dc_1 hG) (vx_c (dc_2 hG) vx_n))))) (by decide +kernel) hG.2.2.2.1 hG.2.2.2.2.1 hS (hl.1.trans hml.symm) dX11_at_18 dX11_at_21 dX11_at_22 dX11_at_24 dX11_at_27 (fun x hx => (hno x hx).elim) (Nat.le_of_ble_eq_true rfl) (Nat.le_of_ble_eq_true rfl) (Nat.le_of_ble_eq_true rfl) (Nat.le_of_ble_eq_true rfl) hlocks (fun t hW hz hk => ⟨(), trivial, rfl, F_of hS hz hk⟩) hS.2.2 (Nat.le_of_ble_eq_true rfl) (Nat.le_of_ble_eq_true rfl)
  · refine lv_iload_n hx hb dX11_at_10 rfl (lv_at hl 3 rfl) ?_
    refine lv_aload_n hx hb dX11_at_11 rfl (lv_at hl 0 rfl) ?_
    refine va_getN (D := (dC, dI)) (ci := 11) (v := .int 0) (C := RX9) (T := TX9) (N := 2) hx hb hts hiX9 hown hK hP (108 + j_1) w_1 rfl 1 (by decide) (nf_3 hG) (fun _ h9 => h9) rfl dX11_at_12 ?_
    refine lv_icmp_lt (tgt := 28) hx hb dX11_at_15 (by decide) (fun c_3 => absurd c_3 (c_2)) (fun c_3 => ?_)
    obtain ⟨sa, hsa⟩ := st_23 hG
    exact vx_throwS hx hb hlf (own := RX11) (cls := "java/lang/IndexOutOfBoundsException") (text := "there is no such place") (names := ["java/lang/RuntimeException", "java/lang/Exception"]) (ik := 138) (is := 140) (ic := 142) hown rfl (by decide) hcl138 hini_IndexOutOfBoundsException hsa (vx_hat (B := [.castable "java/lang/IndexOutOfBoundsException" "java/lang/IndexOutOfBoundsException", .declares (Bundle.initS "java/lang/RuntimeException"), .declares (Bundle.initS "java/lang/Exception"), .declares (Bundle.initS "java/lang/Throwable")]) (fun w h => hts w (List.mem_cons_of_mem _ (by first | exact List.mem_append_right _ h | exact List.mem_append_left _ (List.mem_append_right _ h) | exact List.mem_append_left _ (List.mem_append_left _ (List.mem_append_right _ h))))) (by decide +kernel) (vx_c (xc_0 hG) (vx_c (dc_0 hG) (vx_c (dc_1 hG) (vx_c (dc_2 hG) vx_n))))) (by decide +kernel) hG.2.2.2.1 hG.2.2.2.2.1 hS (hl.1.trans hml.symm) dX11_at_18 dX11_at_21 dX11_at_22 dX11_at_24 dX11_at_27 (fun x hx => (hno x hx).elim) (Nat.le_of_ble_eq_true rfl) (Nat.le_of_ble_eq_true rfl) (Nat.le_of_ble_eq_true rfl) (Nat.le_of_ble_eq_true rfl) hlocks (fun t hW hz hk => ⟨(), trivial, rfl, F_of hS hz hk⟩) hS.2.2 (Nat.le_of_ble_eq_true rfl) (Nat.le_of_ble_eq_true rfl)
set_option maxHeartbeats 4000000 in
set_option maxRecDepth 100000 in
theorem c_X11_askForRun (l : Launch) (hlf : l.stackTraces = false) (dC : Nat → ClassId) (dI : Nat → Nat → Nat) (g : Nat → ClassId) (a : Nat → Nat) (x : Int32) (rn : Int32) (sz : Nat) : vx_Met l yX11_askForRun wsX11_askForRun ({ frames := 7, cells := 3, slots := 18, locals := 103 }) (va_Pc [.ref (a 0), .int x, .int rn] (PG (dC, dI) g (offW a g) sz)) (va_Qv (fun (_ : Unit) => False) (fun (_ : Unit) (_ : State) => True) (va_A (offW a g) sz)) (vx_X (fun _ : Unit => True) (fun E _ _ => E = "java/lang/IndexOutOfBoundsException") (va_A (offW a g) sz)) 3 18 (va_A (offW a g) sz) := by
  refine vx_ofW (cc := cX11_askForRun) (maxL := 3) (ret := none) (by decide) rfl ?_
  intro p e s m args below meth c s₁ B hml hno hv
  obtain ⟨rfl, hsz, hP, hK, hD0, hG⟩ := hv
  have hx := B.exec
  have hb := B.bytes
  have hr := B.returns
  have hts := atoms_spec (ws := wsX11_askForRun) B.pre
  have hown : s.vm.findClass RX11 = some m.cls := findClass_of_methodNamed B.named
  have hlocks := B.notSynchronized
  subst hsz
  have hD := hD0.self (sz := s.heap.size)
  generalize hAe : va_A (offW a g) s.heap.size = A at hD hG ⊢
  have hA : ∀ q : Nat, s.heap.size ≤ q → A q := fun q h => by rw [← hAe]; exact Or.inr h
  have hS : va_S A s.heap s.heap [] := va_S.rf
  have hl := lv_entry ([.ref (a 0), .int x, .int rn]) (n := 3) (Nat.le_of_ble_eq_true rfl)
  rw [lg_entry_eq]
  generalize (lg_sl ([.ref (a 0), .int x, .int rn]) ++ List.replicate (3 - (lg_sl ([.ref (a 0), .int x, .int rn])).length) Slot.unset).toArray = ls at hl ⊢
  have hl : lv_has ls 3 [(0, .ref (a 0)), (1, .int x), (2, .int rn)] := hl
  have hf40 := hts (Cond.fieldLink RX11 40 "RunmergeOffice" "maker" "LRunmergeOffice$RunMaker;") (by decide +kernel)
  have hiX11 : ∀ w ∈ u_ws RX11 TX11 13, w ∈ wsX11_askForRun := by decide +kernel
  have hf10 := hts (Cond.fieldLink RX11 10 "RunmergeOffice" "book" "LRunmergeOffice$Book;") (by decide +kernel)
  have hf33 := hts (Cond.fieldLink RX11 33 "RunmergeOffice" "settings" "LRunmergeOffice$Settings;") (by decide +kernel)
  have hf47 := hts (Cond.fieldLink RX11 47 "RunmergeOffice" "asked" "LRunmergeOffice$RunRow;") (by decide +kernel)
  have hcl138 := hts (Cond.classLink RX11 138 "java/lang/IndexOutOfBoundsException") (by decide +kernel)
  have hini_IndexOutOfBoundsException := hts (Cond.initialized "java/lang/IndexOutOfBoundsException") (by decide +kernel)
  have hiX7 : ∀ w ∈ u_ws RX7 TX7 5, w ∈ wsX11_askForRun := by decide +kernel
  refine lv_aload_n hx hb dX11_askForRun_0 rfl (lv_at hl 0 rfl) ?_
  refine va_get (D := (dC, dI)) (ci := 13) (v := .ref (a 9)) (C := RX11) (T := TX11) (N := 13) hx hb hts hiX11 hown hK hP 0 (o_0 a g) rfl 5 (by decide) hf40 (fun _ h9 => h9) rfl dX11_askForRun_1 ?_
  refine lv_aload_n hx hb dX11_askForRun_4 rfl (lv_at hl 0 rfl) ?_
  refine va_get (D := (dC, dI)) (ci := 13) (v := .ref (a 1)) (C := RX11) (T := TX11) (N := 13) hx hb hts hiX11 hown hK hP 0 (o_0 a g) rfl 0 (by decide) hf10 (fun _ h9 => h9) rfl dX11_askForRun_5 ?_
  refine lv_aload_n hx hb dX11_askForRun_8 rfl (lv_at hl 0 rfl) ?_
  refine lv_iload_n hx hb dX11_askForRun_9 rfl (lv_at hl 1 rfl) ?_
  refine vx_callq (vx_runV (As := [.int x]) (rest := [.ref (a 1), .ref (a 9)]) ⟨hx, hb, hml, hown, hts⟩ (c_X11_tapeOf l hlf dC dI g (offW a g) (a 0) (a 1) (a 4) (a 5) (a 6) (a 8) (a 9) (a 12) (a 16) (a 22) (a 43) (a 64) (a 69) 0 (va_up (va_up (va_up (va_up (va_up (va_up (va_up (va_up (fun _ => none) 0 (some (a 108))) 1 (some (a 109))) 2 (some (a 110))) 3 (some (a 111))) 4 (some (a 112))) 5 (some (a 113))) 6 (some (a 114))) 7 (some (a 115))) (fun j => a (108 + j)) x 0 (o_0 a g) 4 (o_4 a g) (tp_at a) s.heap.size) (cwV 1 hts gX11_askForRun_X11_tapeOf rfl rfl rfl (by decide +kernel) ⟨Nat.le_of_ble_eq_true rfl, Nat.le_of_ble_eq_true rfl⟩) ⟨PG_blind, va_recv hK hP (ci := 13) (q0 := 0) rfl (o_0 a g), PG_call hK hG hS hP hD (A_all hD hA hS.1)⟩ rfl rfl hl.1 rfl (lv_room (Nat.le_of_ble_eq_true rfl)) dX11_askForRun_10 ⟨Nat.le_of_ble_eq_true rfl, Nat.le_of_ble_eq_true rfl⟩) hS (fun q _ h => (A_all hD hA hS.1) q h) (A_all hD hA hS.1) (fun q _ h => (A_all hD hA hS.1) q h) (fun E ce q9 u t H1 locs1 ht hvm hp9 hB9 hz hk hS9 hce hcv hcl => ?_) (fun r_1 u_1 t_1 H_1 L_1 ht_1 hvm_1 hw_1 hB_1 hz_1 hk_1 hS => ?_)
  · exact vx_out (fun x hx => (hno x hx).elim) hlocks hce hcv hcl (fun t ht hW => ⟨(), trivial, hB9.1, hS9.F ht⟩) hS9.2.2 (Nat.le_of_ble_eq_true rfl) (Nat.le_of_ble_eq_true rfl)
  replace hB_1 := (show va_P (dC, dI) vwCl (offW a g) t_1.heap from hB_1)
  rw [ht_1] at hB_1
  have hP := hB_1
  obtain ⟨j_1, hj_1, ex_1, rfl⟩ := hw_1
  have w_1 := o_tape a g j_1 hj_1
  refine lv_aload_n hx hb dX11_askForRun_13 rfl (lv_at hl 0 rfl) ?_
  refine va_get (D := (dC, dI)) (ci := 13) (v := .ref (a 8)) (C := RX11) (T := TX11) (N := 13) hx hb hts hiX11 hown hK hP 0 (o_0 a g) rfl 4 (by decide) hf33 (fun _ h9 => h9) rfl dX11_askForRun_14 ?_
  refine lv_aload_n hx hb dX11_askForRun_17 rfl (lv_at hl 0 rfl) ?_
  refine va_get (D := (dC, dI)) (ci := 13) (v := .ref (a 12)) (C := RX11) (T := TX11) (N := 13) hx hb hts hiX11 hown hK hP 0 (o_0 a g) rfl 6 (by decide) hf47 (fun _ h9 => h9) rfl dX11_askForRun_18 ?_
  refine va_callv (va_runV (As := [.ref (a 1), .ref (a (108 + j_1)), .ref (a 8), .ref (a 12)]) (rest := []) ⟨hx, hb, hml, hown, hts⟩ (c_X6_makeRuns_1 l dC dI g (offW a g) (a 9) (a 10) (a 11) (a 1) (a (108 + j_1)) (a (116 + j_1)) (a 8) (a 12) (a 13) (a 14) (a 15) 0 9 (o_9 a g) (108 + j_1) w_1 8 (o_8 a g) 12 (o_12 a g)  H_1.size) (cwV 4 hts gX11_askForRun_X6_makeRuns rfl rfl rfl (by decide +kernel) ⟨Nat.le_of_ble_eq_true rfl, Nat.le_of_ble_eq_true rfl⟩) ⟨PG_blind, va_recv hK hP (ci := 8) (q0 := 9) rfl (o_9 a g), PG_call hK hG hS hP hD (A_all hD hA hS.1)⟩ rfl rfl hl.1 rfl (lv_room (Nat.le_of_ble_eq_true rfl)) dX11_askForRun_21 ⟨Nat.le_of_ble_eq_true rfl, Nat.le_of_ble_eq_true rfl⟩) hS (fun q _ h => (A_all hD hA hS.1) q h) (A_all hD hA hS.1) (fun u_2 t_2 H_2 L_2 ht_2 hvm_2 hw_2 hB_2 hz_2 hk_2 hS => ?_)
  replace hB_2 := (show va_P (dC, dI) vwCl (offW a g) t_2.heap from hB_2)
  rw [ht_2] at hB_2
  have hP := hB_2
  refine lv_iload_n hx hb dX11_askForRun_24 rfl (lv_at hl 2 rfl) ?_
  refine lv_if_lt (tgt := 39) hx hb dX11_askForRun_25 (by decide) (fun c_3 => ?_) (fun c_3 => ?_)
  · obtain ⟨sa, hsa⟩ := st_25 hG
    exact vx_throwSW hx hb hlf (own := RX11) (cls := "java/lang/IndexOutOfBoundsException") (text := "there is no such run") (names := ["java/lang/RuntimeException", "java/lang/Exception"]) (ik := 138) (is := 357) (ic := 142) hown rfl (by decide) hcl138 hini_IndexOutOfBoundsException hsa (vx_hat (B := [.castable "java/lang/IndexOutOfBoundsException" "java/lang/IndexOutOfBoundsException", .declares (Bundle.initS "java/lang/RuntimeException"), .declares (Bundle.initS "java/lang/Exception"), .declares (Bundle.initS "java/lang/Throwable")]) (fun w h => hts w (List.mem_cons_of_mem _ (by first | exact List.mem_append_right _ h | exact List.mem_append_left _ (List.mem_append_right _ h) | exact List.mem_append_left _ (List.mem_append_left _ (List.mem_append_right _ h))))) (by decide +kernel) (vx_c (xc_0 hG) (vx_c (dc_0 hG) (vx_c (dc_1 hG) (vx_c (dc_2 hG) vx_n))))) (by decide +kernel) hG.2.2.2.1 hG.2.2.2.2.1 hS (hl.1.trans hml.symm) dX11_askForRun_39 dX11_askForRun_42 dX11_askForRun_43 dX11_askForRun_46 dX11_askForRun_49 (fun x hx => (hno x hx).elim) (Nat.le_of_ble_eq_true rfl) (Nat.le_of_ble_eq_true rfl) (Nat.le_of_ble_eq_true rfl) (Nat.le_of_ble_eq_true rfl) hlocks (fun t hW hz hk => ⟨(), trivial, rfl, F_of hS hz hk⟩) hS.2.2 (Nat.le_of_ble_eq_true rfl) (Nat.le_of_ble_eq_true rfl)
  · refine lv_iload_n hx hb dX11_askForRun_28 rfl (lv_at hl 2 rfl) ?_
    refine lv_aload_n hx hb dX11_askForRun_29 rfl (lv_at hl 0 rfl) ?_
    refine va_get (D := (dC, dI)) (ci := 13) (v := .ref (a 12)) (C := RX11) (T := TX11) (N := 13) hx hb hts hiX11 hown hK hP 0 (o_0 a g) rfl 6 (by decide) hf47 (fun _ h9 => h9) rfl dX11_askForRun_30 ?_
    refine va_getN (D := (dC, dI)) (ci := 9) (v := .int 0) (C := RX7) (T := TX7) (N := 5) hx hb hts hiX7 hown hK hP 12 (o_12 a g) rfl 3 (by decide) (nf_30 hG) (fun _ h9 => h9) rfl dX11_askForRun_33 ?_
    refine lv_icmp_lt (tgt := 50) hx hb dX11_askForRun_36 (by decide) (fun c_4 => absurd c_4 (c_3)) (fun c_4 => ?_)
    obtain ⟨sa, hsa⟩ := st_25 hG
    exact vx_throwSW hx hb hlf (own := RX11) (cls := "java/lang/IndexOutOfBoundsException") (text := "there is no such run") (names := ["java/lang/RuntimeException", "java/lang/Exception"]) (ik := 138) (is := 357) (ic := 142) hown rfl (by decide) hcl138 hini_IndexOutOfBoundsException hsa (vx_hat (B := [.castable "java/lang/IndexOutOfBoundsException" "java/lang/IndexOutOfBoundsException", .declares (Bundle.initS "java/lang/RuntimeException"), .declares (Bundle.initS "java/lang/Exception"), .declares (Bundle.initS "java/lang/Throwable")]) (fun w h => hts w (List.mem_cons_of_mem _ (by first | exact List.mem_append_right _ h | exact List.mem_append_left _ (List.mem_append_right _ h) | exact List.mem_append_left _ (List.mem_append_left _ (List.mem_append_right _ h))))) (by decide +kernel) (vx_c (xc_0 hG) (vx_c (dc_0 hG) (vx_c (dc_1 hG) (vx_c (dc_2 hG) vx_n))))) (by decide +kernel) hG.2.2.2.1 hG.2.2.2.2.1 hS (hl.1.trans hml.symm) dX11_askForRun_39 dX11_askForRun_42 dX11_askForRun_43 dX11_askForRun_46 dX11_askForRun_49 (fun x hx => (hno x hx).elim) (Nat.le_of_ble_eq_true rfl) (Nat.le_of_ble_eq_true rfl) (Nat.le_of_ble_eq_true rfl) (Nat.le_of_ble_eq_true rfl) hlocks (fun t hW hz hk => ⟨(), trivial, rfl, F_of hS hz hk⟩) hS.2.2 (Nat.le_of_ble_eq_true rfl) (Nat.le_of_ble_eq_true rfl)
set_option maxHeartbeats 4000000 in
set_option maxRecDepth 100000 in
theorem c_X11_runLength (l : Launch) (hlf : l.stackTraces = false) (dC : Nat → ClassId) (dI : Nat → Nat → Nat) (g : Nat → ClassId) (a : Nat → Nat) (x : Int32) (rn : Int32) (sz : Nat) : vx_Met l yX11_runLength wsX11_runLength ({ frames := 8, cells := 8, slots := 48, locals := 125 }) (va_Pc [.ref (a 0), .int x, .int rn] (PG (dC, dI) g (offW a g) sz)) (va_Qi (fun (_ : Int32) (_ : Unit) => False) (fun (_ : Unit) (_ : State) => True) (va_A (offW a g) sz)) (vx_X (fun _ : Unit => True) (fun E _ _ => E = "java/lang/IndexOutOfBoundsException") (va_A (offW a g) sz)) 8 48 (va_A (offW a g) sz) := by
  refine vx_ofW (cc := cX11_runLength) (maxL := 3) (ret := (some .int)) (by decide) rfl ?_
  intro p e s m args below meth c s₁ B hml hno hv
  obtain ⟨rfl, hsz, hP, hK, hD0, hG⟩ := hv
  have hx := B.exec
  have hb := B.bytes
  have hr := B.returns
  have hts := atoms_spec (ws := wsX11_runLength) B.pre
  have hown : s.vm.findClass RX11 = some m.cls := findClass_of_methodNamed B.named
  have hlocks := B.notSynchronized
  subst hsz
  have hD := hD0.self (sz := s.heap.size)
  generalize hAe : va_A (offW a g) s.heap.size = A at hD hG ⊢
  have hA : ∀ q : Nat, s.heap.size ≤ q → A q := fun q h => by rw [← hAe]; exact Or.inr h
  have hS : va_S A s.heap s.heap [] := va_S.rf
  have hl := lv_entry ([.ref (a 0), .int x, .int rn]) (n := 3) (Nat.le_of_ble_eq_true rfl)
  rw [lg_entry_eq]
  generalize (lg_sl ([.ref (a 0), .int x, .int rn]) ++ List.replicate (3 - (lg_sl ([.ref (a 0), .int x, .int rn])).length) Slot.unset).toArray = ls at hl ⊢
  have hl : lv_has ls 3 [(0, .ref (a 0)), (1, .int x), (2, .int rn)] := hl
  refine lv_aload_n hx hb dX11_runLength_0 rfl (lv_at hl 0 rfl) ?_
  refine lv_iload_n hx hb dX11_runLength_1 rfl (lv_at hl 1 rfl) ?_
  refine lv_iload_n hx hb dX11_runLength_2 rfl (lv_at hl 2 rfl) ?_
  refine vx_callv (vx_runV (As := [.int x, .int rn]) (rest := []) ⟨hx, hb, hml, hown, hts⟩ (c_X11_askForRun l hlf dC dI g a x rn  s.heap.size) (cwV 2 hts gX11_runLength_X11_askForRun rfl rfl rfl (by decide +kernel) ⟨Nat.le_of_ble_eq_true rfl, Nat.le_of_ble_eq_true rfl⟩) ⟨PG_blind, va_recv hK hP (ci := 13) (q0 := 0) rfl (o_0 a g), PG_call hK hG hS hP hD (A_all hD hA hS.1)⟩ rfl rfl hl.1 rfl (lv_room (Nat.le_of_ble_eq_true rfl)) dX11_runLength_3 ⟨Nat.le_of_ble_eq_true rfl, Nat.le_of_ble_eq_true rfl⟩) hS (fun q _ h => (A_all hD hA hS.1) q h) (A_all hD hA hS.1) (fun q _ h => (A_all hD hA hS.1) q h) (fun E ce q9 u t H1 locs1 ht hvm hp9 hB9 hz hk hS9 hce hcv hcl => ?_) (fun u_1 t_1 H_1 L_1 ht_1 hvm_1 hw_1 hB_1 hz_1 hk_1 hS => ?_)
  · exact vx_out (fun x hx => (hno x hx).elim) hlocks hce hcv hcl (fun t ht hW => ⟨(), trivial, hB9, hS9.F ht⟩) hS9.2.2 (Nat.le_of_ble_eq_true rfl) (Nat.le_of_ble_eq_true rfl)
  · exact (hw_1).elim
set_option maxHeartbeats 4000000 in
set_option maxRecDepth 100000 in
theorem c_X11_runAt (l : Launch) (hlf : l.stackTraces = false) (dC : Nat → ClassId) (dI : Nat → Nat → Nat) (g : Nat → ClassId) (a : Nat → Nat) (x : Int32) (rn : Int32) (pl : Int32) (sz : Nat) : vx_Met l yX11_runAt wsX11_runAt ({ frames := 8, cells := 8, slots := 48, locals := 125 }) (va_Pc [.ref (a 0), .int x, .int rn, .int pl] (PG (dC, dI) g (offW a g) sz)) (va_Qi (fun (_ : Int32) (_ : Unit) => False) (fun (_ : Unit) (_ : State) => True) (va_A (offW a g) sz)) (vx_X (fun _ : Unit => True) (fun E _ _ => E = "java/lang/IndexOutOfBoundsException") (va_A (offW a g) sz)) 8 48 (va_A (offW a g) sz) := by
  refine vx_ofW (cc := cX11_runAt) (maxL := 4) (ret := (some .int)) (by decide) rfl ?_
  intro p e s m args below meth c s₁ B hml hno hv
  obtain ⟨rfl, hsz, hP, hK, hD0, hG⟩ := hv
  have hx := B.exec
  have hb := B.bytes
  have hr := B.returns
  have hts := atoms_spec (ws := wsX11_runAt) B.pre
  have hown : s.vm.findClass RX11 = some m.cls := findClass_of_methodNamed B.named
  have hlocks := B.notSynchronized
  subst hsz
  have hD := hD0.self (sz := s.heap.size)
  generalize hAe : va_A (offW a g) s.heap.size = A at hD hG ⊢
  have hA : ∀ q : Nat, s.heap.size ≤ q → A q := fun q h => by rw [← hAe]; exact Or.inr h
  have hS : va_S A s.heap s.heap [] := va_S.rf
  have hl := lv_entry ([.ref (a 0), .int x, .int rn, .int pl]) (n := 4) (Nat.le_of_ble_eq_true rfl)
  rw [lg_entry_eq]
  generalize (lg_sl ([.ref (a 0), .int x, .int rn, .int pl]) ++ List.replicate (4 - (lg_sl ([.ref (a 0), .int x, .int rn, .int pl])).length) Slot.unset).toArray = ls at hl ⊢
  have hl : lv_has ls 4 [(0, .ref (a 0)), (1, .int x), (2, .int rn), (3, .int pl)] := hl
  refine lv_aload_n hx hb dX11_runAt_0 rfl (lv_at hl 0 rfl) ?_
  refine lv_iload_n hx hb dX11_runAt_1 rfl (lv_at hl 1 rfl) ?_
  refine lv_iload_n hx hb dX11_runAt_2 rfl (lv_at hl 2 rfl) ?_
  refine vx_callv (vx_runV (As := [.int x, .int rn]) (rest := []) ⟨hx, hb, hml, hown, hts⟩ (c_X11_askForRun l hlf dC dI g a x rn  s.heap.size) (cwV 2 hts gX11_runAt_X11_askForRun rfl rfl rfl (by decide +kernel) ⟨Nat.le_of_ble_eq_true rfl, Nat.le_of_ble_eq_true rfl⟩) ⟨PG_blind, va_recv hK hP (ci := 13) (q0 := 0) rfl (o_0 a g), PG_call hK hG hS hP hD (A_all hD hA hS.1)⟩ rfl rfl hl.1 rfl (lv_room (Nat.le_of_ble_eq_true rfl)) dX11_runAt_3 ⟨Nat.le_of_ble_eq_true rfl, Nat.le_of_ble_eq_true rfl⟩) hS (fun q _ h => (A_all hD hA hS.1) q h) (A_all hD hA hS.1) (fun q _ h => (A_all hD hA hS.1) q h) (fun E ce q9 u t H1 locs1 ht hvm hp9 hB9 hz hk hS9 hce hcv hcl => ?_) (fun u_1 t_1 H_1 L_1 ht_1 hvm_1 hw_1 hB_1 hz_1 hk_1 hS => ?_)
  · exact vx_out (fun x hx => (hno x hx).elim) hlocks hce hcv hcl (fun t ht hW => ⟨(), trivial, hB9, hS9.F ht⟩) hS9.2.2 (Nat.le_of_ble_eq_true rfl) (Nat.le_of_ble_eq_true rfl)
  · exact (hw_1).elim
set_option maxHeartbeats 4000000 in
set_option maxRecDepth 100000 in
theorem c_X11_demandJobUnderWay (l : Launch) (hlf : l.stackTraces = false) (dC : Nat → ClassId) (dI : Nat → Nat → Nat) (g : Nat → ClassId) (a : Nat → Nat) (sz : Nat) : vx_Met l yX11_demandJobUnderWay wsX11_demandJobUnderWay ({ frames := 6, cells := 1, slots := 6, locals := 82 }) (va_Pc [.ref (a 0)] (PG (dC, dI) g (offW a g) sz)) (va_Qv (fun (_ : Unit) => False) (fun (_ : Unit) (_ : State) => True) (va_A (offW a g) sz)) (vx_X (fun _ : Unit => True) (fun E _ _ => E = "java/lang/IllegalStateException") (va_A (offW a g) sz)) 1 6 (va_A (offW a g) sz) := by
  refine vx_ofW (cc := cX11_demandJobUnderWay) (maxL := 1) (ret := none) (by decide) rfl ?_
  intro p e s m args below meth c s₁ B hml hno hv
  obtain ⟨rfl, hsz, hP, hK, hD0, hG⟩ := hv
  have hx := B.exec
  have hb := B.bytes
  have hr := B.returns
  have hts := atoms_spec (ws := wsX11_demandJobUnderWay) B.pre
  have hown : s.vm.findClass RX11 = some m.cls := findClass_of_methodNamed B.named
  have hlocks := B.notSynchronized
  subst hsz
  have hD := hD0.self (sz := s.heap.size)
  generalize hAe : va_A (offW a g) s.heap.size = A at hD hG ⊢
  have hA : ∀ q : Nat, s.heap.size ≤ q → A q := fun q h => by rw [← hAe]; exact Or.inr h
  have hS : va_S A s.heap s.heap [] := va_S.rf
  have hl := lv_entry ([.ref (a 0)]) (n := 1) (Nat.le_of_ble_eq_true rfl)
  rw [lg_entry_eq]
  generalize (lg_sl ([.ref (a 0)]) ++ List.replicate (1 - (lg_sl ([.ref (a 0)])).length) Slot.unset).toArray = ls at hl ⊢
  have hl : lv_has ls 1 [(0, .ref (a 0))] := hl
  have hf82 := hts (Cond.fieldLink RX11 82 "RunmergeOffice" "hasJob" "Z") (by decide +kernel)
  have hiX11 : ∀ w ∈ u_ws RX11 TX11 13, w ∈ wsX11_demandJobUnderWay := by decide +kernel
  have hcl245 := hts (Cond.classLink RX11 245 "java/lang/IllegalStateException") (by decide +kernel)
  have hini_IllegalStateException := hts (Cond.initialized "java/lang/IllegalStateException") (by decide +kernel)
  refine lv_aload_n hx hb dX11_demandJobUnderWay_0 rfl (lv_at hl 0 rfl) ?_
  refine va_get (D := (dC, dI)) (ci := 13) (v := .int 0) (C := RX11) (T := TX11) (N := 13) hx hb hts hiX11 hown hK hP 0 (o_0 a g) rfl 12 (by decide) hf82 (fun _ h9 => h9) rfl dX11_demandJobUnderWay_1 ?_
  refine lv_if_eq (tgt := 17) hx hb dX11_demandJobUnderWay_4 (by decide) (fun c_1 => ?_) (fun c_1 => absurd (by decide) c_1)
  obtain ⟨sa, hsa⟩ := st_26 hG
  exact vx_throwSW hx hb hlf (own := RX11) (cls := "java/lang/IllegalStateException") (text := "no job is under way") (names := ["java/lang/RuntimeException", "java/lang/Exception"]) (ik := 245) (is := 355) (ic := 249) hown rfl (by decide) hcl245 hini_IllegalStateException hsa (vx_hat (B := [.castable "java/lang/IllegalStateException" "java/lang/IllegalStateException", .declares (Bundle.initS "java/lang/RuntimeException"), .declares (Bundle.initS "java/lang/Exception"), .declares (Bundle.initS "java/lang/Throwable")]) (fun w h => hts w (List.mem_cons_of_mem _ (by first | exact List.mem_append_right _ h | exact List.mem_append_left _ (List.mem_append_right _ h) | exact List.mem_append_left _ (List.mem_append_left _ (List.mem_append_right _ h))))) (by decide +kernel) (vx_c (xc_2 hG) (vx_c (dc_0 hG) (vx_c (dc_1 hG) (vx_c (dc_2 hG) vx_n))))) (by decide +kernel) hG.2.2.2.1 hG.2.2.2.2.1 hS (hl.1.trans hml.symm) dX11_demandJobUnderWay_17 dX11_demandJobUnderWay_20 dX11_demandJobUnderWay_21 dX11_demandJobUnderWay_24 dX11_demandJobUnderWay_27 (fun x hx => (hno x hx).elim) (Nat.le_of_ble_eq_true rfl) (Nat.le_of_ble_eq_true rfl) (Nat.le_of_ble_eq_true rfl) (Nat.le_of_ble_eq_true rfl) hlocks (fun t hW hz hk => ⟨(), trivial, rfl, F_of hS hz hk⟩) hS.2.2 (Nat.le_of_ble_eq_true rfl) (Nat.le_of_ble_eq_true rfl)
set_option maxHeartbeats 4000000 in
set_option maxRecDepth 100000 in
theorem c_X11_plan (l : Launch) (hlf : l.stackTraces = false) (dC : Nat → ClassId) (dI : Nat → Nat → Nat) (g : Nat → ClassId) (a : Nat → Nat) (x : Int32) (k : Int32) (sz : Nat) : vx_Met l yX11_plan wsX11_plan ({ frames := 7, cells := 8, slots := 48, locals := 105 }) (va_Pc [.ref (a 0), .int x, .int k] (PG (dC, dI) g (offW a g) sz)) (va_Qi (fun (r : Int32) (_ : Unit) => (TOKb x) = true ∧ (rngb k 0 3) = true ∧ r = 0) (fun (_ : Unit) (_ : State) => True) (va_A (offW a g) sz)) (vx_X (fun _ : Unit => True) (fun E _ _ => (E = "java/lang/IndexOutOfBoundsException" ∧ (TOKb x) = false) ∨ (E = "java/lang/IllegalArgumentException" ∧ TOKb x = true ∧ (rngb k 0 3) = false)) (va_A (offW a g) sz)) 8 48 (va_A (offW a g) sz) := by
  refine vx_ofW (cc := cX11_plan) (maxL := 4) (ret := (some .int)) (by decide) rfl ?_
  intro p e s m args below meth c s₁ B hml hno hv
  obtain ⟨rfl, hsz, hP, hK, hD0, hG⟩ := hv
  have hx := B.exec
  have hb := B.bytes
  have hr := B.returns
  have hts := atoms_spec (ws := wsX11_plan) B.pre
  have hown : s.vm.findClass RX11 = some m.cls := findClass_of_methodNamed B.named
  have hlocks := B.notSynchronized
  subst hsz
  have hD := hD0.self (sz := s.heap.size)
  generalize hAe : va_A (offW a g) s.heap.size = A at hD hG ⊢
  have hA : ∀ q : Nat, s.heap.size ≤ q → A q := fun q h => by rw [← hAe]; exact Or.inr h
  have hS : va_S A s.heap s.heap [] := va_S.rf
  have hl := lv_entry ([.ref (a 0), .int x, .int k]) (n := 4) (Nat.le_of_ble_eq_true rfl)
  rw [lg_entry_eq]
  generalize (lg_sl ([.ref (a 0), .int x, .int k]) ++ List.replicate (4 - (lg_sl ([.ref (a 0), .int x, .int k])).length) Slot.unset).toArray = ls at hl ⊢
  have hl : lv_has ls 4 [(0, .ref (a 0)), (1, .int x), (2, .int k)] := hl
  have hf40 := hts (Cond.fieldLink RX11 40 "RunmergeOffice" "maker" "LRunmergeOffice$RunMaker;") (by decide +kernel)
  have hiX11 : ∀ w ∈ u_ws RX11 TX11 13, w ∈ wsX11_plan := by decide +kernel
  have hf10 := hts (Cond.fieldLink RX11 10 "RunmergeOffice" "book" "LRunmergeOffice$Book;") (by decide +kernel)
  have hf33 := hts (Cond.fieldLink RX11 33 "RunmergeOffice" "settings" "LRunmergeOffice$Settings;") (by decide +kernel)
  have hf47 := hts (Cond.fieldLink RX11 47 "RunmergeOffice" "asked" "LRunmergeOffice$RunRow;") (by decide +kernel)
  have hf54 := hts (Cond.fieldLink RX11 54 "RunmergeOffice" "planned" "LRunmergeOffice$Plan;") (by decide +kernel)
  have hiX4 : ∀ w ∈ u_ws RX4 TX4 8, w ∈ wsX11_plan := by decide +kernel
  have hiX3 : ∀ w ∈ u_ws RX3 TX3 6, w ∈ wsX11_plan := by decide +kernel
  refine lv_aload_n hx hb dX11_plan_0 rfl (lv_at hl 0 rfl) ?_
  refine lv_iload_n hx hb dX11_plan_1 rfl (lv_at hl 1 rfl) ?_
  refine vx_callq (vx_runV (As := [.int x]) (rest := []) ⟨hx, hb, hml, hown, hts⟩ (c_X11_tapeOf l hlf dC dI g (offW a g) (a 0) (a 1) (a 4) (a 5) (a 6) (a 8) (a 9) (a 12) (a 16) (a 22) (a 43) (a 64) (a 69) 0 (va_up (va_up (va_up (va_up (va_up (va_up (va_up (va_up (fun _ => none) 0 (some (a 108))) 1 (some (a 109))) 2 (some (a 110))) 3 (some (a 111))) 4 (some (a 112))) 5 (some (a 113))) 6 (some (a 114))) 7 (some (a 115))) (fun j => a (108 + j)) x 0 (o_0 a g) 4 (o_4 a g) (tp_at a) s.heap.size) (cwV 1 hts gX11_plan_X11_tapeOf rfl rfl rfl (by decide +kernel) ⟨Nat.le_of_ble_eq_true rfl, Nat.le_of_ble_eq_true rfl⟩) ⟨PG_blind, va_recv hK hP (ci := 13) (q0 := 0) rfl (o_0 a g), PG_call hK hG hS hP hD (A_all hD hA hS.1)⟩ rfl rfl hl.1 rfl (lv_room (Nat.le_of_ble_eq_true rfl)) dX11_plan_2 ⟨Nat.le_of_ble_eq_true rfl, Nat.le_of_ble_eq_true rfl⟩) hS (fun q _ h => (A_all hD hA hS.1) q h) (A_all hD hA hS.1) (fun q _ h => (A_all hD hA hS.1) q h) (fun E ce q9 u t H1 locs1 ht hvm hp9 hB9 hz hk hS9 hce hcv hcl => ?_) (fun r_1 u_1 t_1 H_1 L_1 ht_1 hvm_1 hw_1 hB_1 hz_1 hk_1 hS => ?_)
  · exact vx_out (fun x hx => (hno x hx).elim) hlocks hce hcv hcl (fun t ht hW => ⟨(), trivial, (by have h9 : E = "java/lang/IndexOutOfBoundsException" ∧ TOKb x = false := hB9; exact (Or.inl ⟨h9.1, by simp [h9.2]⟩)), hS9.F ht⟩) hS9.2.2 (Nat.le_of_ble_eq_true rfl) (Nat.le_of_ble_eq_true rfl)
  replace hB_1 := (show va_P (dC, dI) vwCl (offW a g) t_1.heap from hB_1)
  rw [ht_1] at hB_1
  have hP := hB_1
  obtain ⟨j_1, hj_1, ex_1, rfl⟩ := hw_1
  have w_1 := o_tape a g j_1 hj_1
  refine lv_astore_n (lv' := [(3, .ref (a (108 + j_1))), (0, .ref (a 0)), (1, .int x), (2, .int k)]) hx hb dX11_plan_5 rfl hl (by decide) rfl (fun ls hl => ?_)
  refine lv_aload_n hx hb dX11_plan_6 rfl (lv_at hl 1 rfl) ?_
  refine lv_iload_n hx hb dX11_plan_7 rfl (lv_at hl 3 rfl) ?_
  refine lv_iconst (v := 0) hx hb dX11_plan_8 (by decide) ?_
  refine lv_iconst (v := 3) hx hb dX11_plan_9 (by decide) ?_
  refine vx_callv (vx_runV (As := [.int k, .int 0, .int 3]) (rest := []) ⟨hx, hb, hml, hown, hts⟩ (c_X11_demandRange l hlf dC dI g (offW a g) (a 0) k 0 3   H_1.size) (cwV 3 hts gX11_plan_X11_demandRange rfl rfl rfl (by decide +kernel) ⟨Nat.le_of_ble_eq_true rfl, Nat.le_of_ble_eq_true rfl⟩) ⟨PG_blind, va_recv hK hP (ci := 13) (q0 := 0) rfl (o_0 a g), PG_call hK hG hS hP hD (A_all hD hA hS.1)⟩ rfl rfl hl.1 rfl (lv_room (Nat.le_of_ble_eq_true rfl)) dX11_plan_10 ⟨Nat.le_of_ble_eq_true rfl, Nat.le_of_ble_eq_true rfl⟩) hS (fun q _ h => (A_all hD hA hS.1) q h) (A_all hD hA hS.1) (fun q _ h => (A_all hD hA hS.1) q h) (fun E ce q9 u t H1 locs1 ht hvm hp9 hB9 hz hk hS9 hce hcv hcl => ?_) (fun u_2 t_2 H_2 L_2 ht_2 hvm_2 hw_2 hB_2 hz_2 hk_2 hS => ?_)
  · exact vx_out (fun x hx => (hno x hx).elim) hlocks hce hcv hcl (fun t ht hW => ⟨(), trivial, (by have h9 : E = "java/lang/IllegalArgumentException" ∧ rngb k 0 3 = false := hB9; exact (Or.inr ⟨h9.1, by simp [TOK_j hj_1 ex_1], by simp [h9.2]⟩)), hS9.F ht⟩) hS9.2.2 (Nat.le_of_ble_eq_true rfl) (Nat.le_of_ble_eq_true rfl)
  replace hB_2 := (show va_P (dC, dI) vwCl (offW a g) t_2.heap from hB_2)
  rw [ht_2] at hB_2
  have hP := hB_2
  refine lv_aload_n hx hb dX11_plan_13 rfl (lv_at hl 1 rfl) ?_
  refine va_get (D := (dC, dI)) (ci := 13) (v := .ref (a 9)) (C := RX11) (T := TX11) (N := 13) hx hb hts hiX11 hown hK hP 0 (o_0 a g) rfl 5 (by decide) hf40 (fun _ h9 => h9) rfl dX11_plan_14 ?_
  refine lv_aload_n hx hb dX11_plan_17 rfl (lv_at hl 1 rfl) ?_
  refine va_get (D := (dC, dI)) (ci := 13) (v := .ref (a 1)) (C := RX11) (T := TX11) (N := 13) hx hb hts hiX11 hown hK hP 0 (o_0 a g) rfl 0 (by decide) hf10 (fun _ h9 => h9) rfl dX11_plan_18 ?_
  refine lv_aload_n hx hb dX11_plan_21 rfl (lv_at hl 0 rfl) ?_
  refine lv_aload_n hx hb dX11_plan_22 rfl (lv_at hl 1 rfl) ?_
  refine va_get (D := (dC, dI)) (ci := 13) (v := .ref (a 8)) (C := RX11) (T := TX11) (N := 13) hx hb hts hiX11 hown hK hP 0 (o_0 a g) rfl 4 (by decide) hf33 (fun _ h9 => h9) rfl dX11_plan_23 ?_
  refine lv_aload_n hx hb dX11_plan_26 rfl (lv_at hl 1 rfl) ?_
  refine va_get (D := (dC, dI)) (ci := 13) (v := .ref (a 12)) (C := RX11) (T := TX11) (N := 13) hx hb hts hiX11 hown hK hP 0 (o_0 a g) rfl 6 (by decide) hf47 (fun _ h9 => h9) rfl dX11_plan_27 ?_
  refine va_callv (va_runV (As := [.ref (a 1), .ref (a (108 + j_1)), .ref (a 8), .ref (a 12)]) (rest := []) ⟨hx, hb, hml, hown, hts⟩ (c_X6_makeRuns_1 l dC dI g (offW a g) (a 9) (a 10) (a 11) (a 1) (a (108 + j_1)) (a (116 + j_1)) (a 8) (a 12) (a 13) (a 14) (a 15) 0 9 (o_9 a g) (108 + j_1) w_1 8 (o_8 a g) 12 (o_12 a g)  H_2.size) (cwV 4 hts gX11_plan_X6_makeRuns rfl rfl rfl (by decide +kernel) ⟨Nat.le_of_ble_eq_true rfl, Nat.le_of_ble_eq_true rfl⟩) ⟨PG_blind, va_recv hK hP (ci := 8) (q0 := 9) rfl (o_9 a g), PG_call hK hG hS hP hD (A_all hD hA hS.1)⟩ rfl rfl hl.1 rfl (lv_room (Nat.le_of_ble_eq_true rfl)) dX11_plan_30 ⟨Nat.le_of_ble_eq_true rfl, Nat.le_of_ble_eq_true rfl⟩) hS (fun q _ h => (A_all hD hA hS.1) q h) (A_all hD hA hS.1) (fun u_3 t_3 H_3 L_3 ht_3 hvm_3 hw_3 hB_3 hz_3 hk_3 hS => ?_)
  replace hB_3 := (show va_P (dC, dI) vwCl (offW a g) t_3.heap from hB_3)
  rw [ht_3] at hB_3
  have hP := hB_3
  refine lv_aload_n hx hb dX11_plan_33 rfl (lv_at hl 1 rfl) ?_
  refine va_get (D := (dC, dI)) (ci := 13) (v := .ref (a 16)) (C := RX11) (T := TX11) (N := 13) hx hb hts hiX11 hown hK hP 0 (o_0 a g) rfl 7 (by decide) hf54 (fun _ h9 => h9) rfl dX11_plan_34 ?_
  refine lv_aload_n hx hb dX11_plan_37 rfl (lv_at hl 1 rfl) ?_
  refine va_get (D := (dC, dI)) (ci := 13) (v := .ref (a 12)) (C := RX11) (T := TX11) (N := 13) hx hb hts hiX11 hown hK hP 0 (o_0 a g) rfl 6 (by decide) hf47 (fun _ h9 => h9) rfl dX11_plan_38 ?_
  refine lv_aload_n hx hb dX11_plan_41 rfl (lv_at hl 1 rfl) ?_
  refine va_get (D := (dC, dI)) (ci := 13) (v := .ref (a 8)) (C := RX11) (T := TX11) (N := 13) hx hb hts hiX11 hown hK hP 0 (o_0 a g) rfl 4 (by decide) hf33 (fun _ h9 => h9) rfl dX11_plan_42 ?_
  refine va_callv (va_runV (As := [.ref (a 12), .ref (a 8)]) (rest := []) ⟨hx, hb, hml, hown, hts⟩ (c_X4_tell_0 l dC dI g (offW a g) (a 16) (a 17) (a 20) (a 21) (a 18) (a 19) (a 12) (a 13) (a 14) (a 15) (a 8) 1 16 (o_16 a g) 17 (o_17 a g) 12 (o_12 a g) 8 (o_8 a g)  H_3.size) (cwV 2 hts gX11_plan_X4_tell rfl rfl rfl (by decide +kernel) ⟨Nat.le_of_ble_eq_true rfl, Nat.le_of_ble_eq_true rfl⟩) ⟨PG_blind, va_recv hK hP (ci := 6) (q0 := 16) rfl (o_16 a g), PG_call hK hG hS hP hD (A_all hD hA hS.1)⟩ rfl rfl hl.1 rfl (lv_room (Nat.le_of_ble_eq_true rfl)) dX11_plan_45 ⟨Nat.le_of_ble_eq_true rfl, Nat.le_of_ble_eq_true rfl⟩) hS (fun q _ h => (A_all hD hA hS.1) q h) (A_all hD hA hS.1) (fun u_4 t_4 H_4 L_4 ht_4 hvm_4 hw_4 hB_4 hz_4 hk_4 hS => ?_)
  replace hB_4 := (show va_P (dC, dI) vwCl (offW a g) t_4.heap from hB_4)
  rw [ht_4] at hB_4
  have hP := hB_4
  refine lv_iload_n hx hb dX11_plan_48 rfl (lv_at hl 3 rfl) ?_
  rcases sw_0_2 k with rfl | rfl | rfl | c_sw
  · refine lv_tableIn (tgt := 76) hx hb dX11_plan_49 (by decide) (by decide) rfl (by decide) ?_
    refine lv_aload_n hx hb dX11_plan_76 rfl (lv_at hl 1 rfl) ?_
    refine va_get (D := (dC, dI)) (ci := 13) (v := .ref (a 16)) (C := RX11) (T := TX11) (N := 13) hx hb hts hiX11 hown hK hP 0 (o_0 a g) rfl 7 (by decide) hf54 (fun _ h9 => h9) rfl dX11_plan_77 ?_
    refine va_getN (D := (dC, dI)) (ci := 6) (v := .int 0) (C := RX4) (T := TX4) (N := 8) hx hb hts hiX4 hown hK hP 16 (o_16 a g) rfl 5 (by decide) (nf_36 hG) (fun _ h9 => h9) rfl dX11_plan_80 ?_
    refine W.widen (k := 8) (n := 48) (by omega) (by omega) ?_
    refine vx_ret ?_
    exact W.iret (v := 0) hx hb hr (fun t ht hW => ⟨⟨0, (), rfl, ⟨by simp [TOK_j hj_1 ex_1, hw_2], by simp [TOK_j hj_1 ex_1, hw_2], rfl⟩, trivial⟩, hS.F ht⟩) hS.2.2 dX11_plan_83
  · refine lv_tableIn (tgt := 84) hx hb dX11_plan_49 (by decide) (by decide) rfl (by decide) ?_
    refine lv_aload_n hx hb dX11_plan_84 rfl (lv_at hl 1 rfl) ?_
    refine va_get (D := (dC, dI)) (ci := 13) (v := .ref (a 16)) (C := RX11) (T := TX11) (N := 13) hx hb hts hiX11 hown hK hP 0 (o_0 a g) rfl 7 (by decide) hf54 (fun _ h9 => h9) rfl dX11_plan_85 ?_
    refine va_getN (D := (dC, dI)) (ci := 6) (v := .int 0) (C := RX4) (T := TX4) (N := 8) hx hb hts hiX4 hown hK hP 16 (o_16 a g) rfl 6 (by decide) (nf_38 hG) (fun _ h9 => h9) rfl dX11_plan_88 ?_
    refine W.widen (k := 8) (n := 48) (by omega) (by omega) ?_
    refine vx_ret ?_
    exact W.iret (v := 0) hx hb hr (fun t ht hW => ⟨⟨0, (), rfl, ⟨by simp [TOK_j hj_1 ex_1, hw_2], by simp [TOK_j hj_1 ex_1, hw_2], rfl⟩, trivial⟩, hS.F ht⟩) hS.2.2 dX11_plan_91
  · refine lv_tableIn (tgt := 92) hx hb dX11_plan_49 (by decide) (by decide) rfl (by decide) ?_
    refine lv_aload_n hx hb dX11_plan_92 rfl (lv_at hl 1 rfl) ?_
    refine va_get (D := (dC, dI)) (ci := 13) (v := .ref (a 16)) (C := RX11) (T := TX11) (N := 13) hx hb hts hiX11 hown hK hP 0 (o_0 a g) rfl 7 (by decide) hf54 (fun _ h9 => h9) rfl dX11_plan_93 ?_
    refine va_getN (D := (dC, dI)) (ci := 6) (v := .int 0) (C := RX4) (T := TX4) (N := 8) hx hb hts hiX4 hown hK hP 16 (o_16 a g) rfl 7 (by decide) (nf_40 hG) (fun _ h9 => h9) rfl dX11_plan_96 ?_
    refine W.widen (k := 8) (n := 48) (by omega) (by omega) ?_
    refine vx_ret ?_
    exact W.iret (v := 0) hx hb hr (fun t ht hW => ⟨⟨0, (), rfl, ⟨by simp [TOK_j hj_1 ex_1, hw_2], by simp [TOK_j hj_1 ex_1, hw_2], rfl⟩, trivial⟩, hS.F ht⟩) hS.2.2 dX11_plan_99
  · refine lv_tableOut (tgt := 100) hx hb dX11_plan_49 c_sw (by decide) ?_
    refine lv_aload_n hx hb dX11_plan_100 rfl (lv_at hl 1 rfl) ?_
    refine va_get (D := (dC, dI)) (ci := 13) (v := .ref (a 16)) (C := RX11) (T := TX11) (N := 13) hx hb hts hiX11 hown hK hP 0 (o_0 a g) rfl 7 (by decide) hf54 (fun _ h9 => h9) rfl dX11_plan_101 ?_
    refine va_getN (D := (dC, dI)) (ci := 6) (v := .ref (a 17)) (C := RX4) (T := TX4) (N := 8) hx hb hts hiX4 hown hK hP 16 (o_16 a g) rfl 0 (by decide) (nf_34 hG) (fun _ h9 => h9) rfl dX11_plan_104 ?_
    refine va_getN (D := (dC, dI)) (ci := 5) (v := .int 0) (C := RX3) (T := TX3) (N := 6) hx hb hts hiX3 hown hK hP 17 (o_17 a g) rfl 5 (by decide) (nf_33 hG) (fun _ h9 => h9) rfl dX11_plan_107 ?_
    refine W.widen (k := 8) (n := 48) (by omega) (by omega) ?_
    refine vx_ret ?_
    exact W.iret (v := 0) hx hb hr (fun t ht hW => ⟨⟨0, (), rfl, ⟨by simp [TOK_j hj_1 ex_1, hw_2], by simp [TOK_j hj_1 ex_1, hw_2], rfl⟩, trivial⟩, hS.F ht⟩) hS.2.2 dX11_plan_110
set_option maxHeartbeats 4000000 in
set_option maxRecDepth 100000 in
theorem c_X11_work (l : Launch) (hlf : l.stackTraces = false) (dC : Nat → ClassId) (dI : Nat → Nat → Nat) (g : Nat → ClassId) (a : Nat → Nat) (x : Int32) (sz : Nat) : vx_Met l yX11_work wsX11_work ({ frames := 7, cells := 8, slots := 48, locals := 105 }) (va_Pc [.ref (a 0), .int x] (PG (dC, dI) g (offW a g) sz)) (va_Qi (fun (_ : Int32) (_ : Unit) => False) (fun (_ : Unit) (_ : State) => True) (va_A (offW a g) sz)) (vx_X (fun _ : Unit => True) (fun E _ _ => (E = "java/lang/IllegalArgumentException" ∧ (rngb x 1 200) = false) ∨ (E = "java/lang/IllegalStateException" ∧ rngb x 1 200 = true ∧ false = false)) (va_A (offW a g) sz)) 8 48 (va_A (offW a g) sz) := by
  refine vx_ofW (cc := cX11_work) (maxL := 3) (ret := (some .int)) (by decide) rfl ?_
  intro p e s m args below meth c s₁ B hml hno hv
  obtain ⟨rfl, hsz, hP, hK, hD0, hG⟩ := hv
  have hx := B.exec
  have hb := B.bytes
  have hr := B.returns
  have hts := atoms_spec (ws := wsX11_work) B.pre
  have hown : s.vm.findClass RX11 = some m.cls := findClass_of_methodNamed B.named
  have hlocks := B.notSynchronized
  subst hsz
  have hD := hD0.self (sz := s.heap.size)
  generalize hAe : va_A (offW a g) s.heap.size = A at hD hG ⊢
  have hA : ∀ q : Nat, s.heap.size ≤ q → A q := fun q h => by rw [← hAe]; exact Or.inr h
  have hS : va_S A s.heap s.heap [] := va_S.rf
  have hl := lv_entry ([.ref (a 0), .int x]) (n := 3) (Nat.le_of_ble_eq_true rfl)
  rw [lg_entry_eq]
  generalize (lg_sl ([.ref (a 0), .int x]) ++ List.replicate (3 - (lg_sl ([.ref (a 0), .int x])).length) Slot.unset).toArray = ls at hl ⊢
  have hl : lv_has ls 3 [(0, .ref (a 0)), (1, .int x)] := hl
  refine lv_aload_n hx hb dX11_work_0 rfl (lv_at hl 0 rfl) ?_
  refine lv_iload_n hx hb dX11_work_1 rfl (lv_at hl 1 rfl) ?_
  refine lv_iconst (v := 1) hx hb dX11_work_2 (by decide) ?_
  refine lv_sipush (v := 200) hx hb dX11_work_3 (by decide) ?_
  refine vx_callv (vx_runV (As := [.int x, .int 1, .int 200]) (rest := []) ⟨hx, hb, hml, hown, hts⟩ (c_X11_demandRange l hlf dC dI g (offW a g) (a 0) x 1 200   s.heap.size) (cwV 3 hts gX11_work_X11_demandRange rfl rfl rfl (by decide +kernel) ⟨Nat.le_of_ble_eq_true rfl, Nat.le_of_ble_eq_true rfl⟩) ⟨PG_blind, va_recv hK hP (ci := 13) (q0 := 0) rfl (o_0 a g), PG_call hK hG hS hP hD (A_all hD hA hS.1)⟩ rfl rfl hl.1 rfl (lv_room (Nat.le_of_ble_eq_true rfl)) dX11_work_6 ⟨Nat.le_of_ble_eq_true rfl, Nat.le_of_ble_eq_true rfl⟩) hS (fun q _ h => (A_all hD hA hS.1) q h) (A_all hD hA hS.1) (fun q _ h => (A_all hD hA hS.1) q h) (fun E ce q9 u t H1 locs1 ht hvm hp9 hB9 hz hk hS9 hce hcv hcl => ?_) (fun u_1 t_1 H_1 L_1 ht_1 hvm_1 hw_1 hB_1 hz_1 hk_1 hS => ?_)
  · exact vx_out (fun x hx => (hno x hx).elim) hlocks hce hcv hcl (fun t ht hW => ⟨(), trivial, (by have h9 : E = "java/lang/IllegalArgumentException" ∧ rngb x 1 200 = false := hB9; exact (Or.inl ⟨h9.1, by simp [h9.2]⟩)), hS9.F ht⟩) hS9.2.2 (Nat.le_of_ble_eq_true rfl) (Nat.le_of_ble_eq_true rfl)
  replace hB_1 := (show va_P (dC, dI) vwCl (offW a g) t_1.heap from hB_1)
  rw [ht_1] at hB_1
  have hP := hB_1
  refine lv_aload_n hx hb dX11_work_9 rfl (lv_at hl 0 rfl) ?_
  refine vx_callv (vx_runV (As := []) (rest := []) ⟨hx, hb, hml, hown, hts⟩ (c_X11_demandJobUnderWay l hlf dC dI g a  H_1.size) (cwV 0 hts gX11_work_X11_demandJobUnderWay rfl rfl rfl (by decide +kernel) ⟨Nat.le_of_ble_eq_true rfl, Nat.le_of_ble_eq_true rfl⟩) ⟨PG_blind, va_recv hK hP (ci := 13) (q0 := 0) rfl (o_0 a g), PG_call hK hG hS hP hD (A_all hD hA hS.1)⟩ rfl rfl hl.1 rfl (lv_room (Nat.le_of_ble_eq_true rfl)) dX11_work_10 ⟨Nat.le_of_ble_eq_true rfl, Nat.le_of_ble_eq_true rfl⟩) hS (fun q _ h => (A_all hD hA hS.1) q h) (A_all hD hA hS.1) (fun q _ h => (A_all hD hA hS.1) q h) (fun E ce q9 u t H1 locs1 ht hvm hp9 hB9 hz hk hS9 hce hcv hcl => ?_) (fun u_2 t_2 H_2 L_2 ht_2 hvm_2 hw_2 hB_2 hz_2 hk_2 hS => ?_)
  · exact vx_out (fun x hx => (hno x hx).elim) hlocks hce hcv hcl (fun t ht hW => ⟨(), trivial, (by have h9 : E = "java/lang/IllegalStateException" := hB9; exact (Or.inr ⟨h9, by simp [hw_1], by simp []⟩)), hS9.F ht⟩) hS9.2.2 (Nat.le_of_ble_eq_true rfl) (Nat.le_of_ble_eq_true rfl)
  · exact (hw_2).elim
set_option maxHeartbeats 4000000 in
set_option maxRecDepth 100000 in
theorem c_X11_job (l : Launch) (hlf : l.stackTraces = false) (dC : Nat → ClassId) (dI : Nat → Nat → Nat) (g : Nat → ClassId) (a : Nat → Nat) (x : Int32) (sz : Nat) : vx_Met l yX11_job wsX11_job ({ frames := 7, cells := 8, slots := 48, locals := 105 }) (va_Pc [.ref (a 0), .int x] (PG (dC, dI) g (offW a g) sz)) (va_Qi (fun (_ : Int32) (_ : Unit) => False) (fun (_ : Unit) (_ : State) => True) (va_A (offW a g) sz)) (vx_X (fun _ : Unit => True) (fun E _ _ => (E = "java/lang/IllegalArgumentException" ∧ (rngb x 0 7) = false) ∨ (E = "java/lang/IllegalStateException" ∧ rngb x 0 7 = true ∧ false = false)) (va_A (offW a g) sz)) 8 48 (va_A (offW a g) sz) := by
  refine vx_ofW (cc := cX11_job) (maxL := 2) (ret := (some .int)) (by decide) rfl ?_
  intro p e s m args below meth c s₁ B hml hno hv
  obtain ⟨rfl, hsz, hP, hK, hD0, hG⟩ := hv
  have hx := B.exec
  have hb := B.bytes
  have hr := B.returns
  have hts := atoms_spec (ws := wsX11_job) B.pre
  have hown : s.vm.findClass RX11 = some m.cls := findClass_of_methodNamed B.named
  have hlocks := B.notSynchronized
  subst hsz
  have hD := hD0.self (sz := s.heap.size)
  generalize hAe : va_A (offW a g) s.heap.size = A at hD hG ⊢
  have hA : ∀ q : Nat, s.heap.size ≤ q → A q := fun q h => by rw [← hAe]; exact Or.inr h
  have hS : va_S A s.heap s.heap [] := va_S.rf
  have hl := lv_entry ([.ref (a 0), .int x]) (n := 2) (Nat.le_of_ble_eq_true rfl)
  rw [lg_entry_eq]
  generalize (lg_sl ([.ref (a 0), .int x]) ++ List.replicate (2 - (lg_sl ([.ref (a 0), .int x])).length) Slot.unset).toArray = ls at hl ⊢
  have hl : lv_has ls 2 [(0, .ref (a 0)), (1, .int x)] := hl
  have hf82 := hts (Cond.fieldLink RX11 82 "RunmergeOffice" "hasJob" "Z") (by decide +kernel)
  have hiX11 : ∀ w ∈ u_ws RX11 TX11 13, w ∈ wsX11_job := by decide +kernel
  have hcl245 := hts (Cond.classLink RX11 245 "java/lang/IllegalStateException") (by decide +kernel)
  have hini_IllegalStateException := hts (Cond.initialized "java/lang/IllegalStateException") (by decide +kernel)
  refine lv_aload_n hx hb dX11_job_0 rfl (lv_at hl 0 rfl) ?_
  refine lv_iload_n hx hb dX11_job_1 rfl (lv_at hl 1 rfl) ?_
  refine lv_iconst (v := 0) hx hb dX11_job_2 (by decide) ?_
  refine lv_bipush (v := 7) hx hb dX11_job_3 (by decide) ?_
  refine vx_callv (vx_runV (As := [.int x, .int 0, .int 7]) (rest := []) ⟨hx, hb, hml, hown, hts⟩ (c_X11_demandRange l hlf dC dI g (offW a g) (a 0) x 0 7   s.heap.size) (cwV 3 hts gX11_job_X11_demandRange rfl rfl rfl (by decide +kernel) ⟨Nat.le_of_ble_eq_true rfl, Nat.le_of_ble_eq_true rfl⟩) ⟨PG_blind, va_recv hK hP (ci := 13) (q0 := 0) rfl (o_0 a g), PG_call hK hG hS hP hD (A_all hD hA hS.1)⟩ rfl rfl hl.1 rfl (lv_room (Nat.le_of_ble_eq_true rfl)) dX11_job_5 ⟨Nat.le_of_ble_eq_true rfl, Nat.le_of_ble_eq_true rfl⟩) hS (fun q _ h => (A_all hD hA hS.1) q h) (A_all hD hA hS.1) (fun q _ h => (A_all hD hA hS.1) q h) (fun E ce q9 u t H1 locs1 ht hvm hp9 hB9 hz hk hS9 hce hcv hcl => ?_) (fun u_1 t_1 H_1 L_1 ht_1 hvm_1 hw_1 hB_1 hz_1 hk_1 hS => ?_)
  · exact vx_out (fun x hx => (hno x hx).elim) hlocks hce hcv hcl (fun t ht hW => ⟨(), trivial, (by have h9 : E = "java/lang/IllegalArgumentException" ∧ rngb x 0 7 = false := hB9; exact (Or.inl ⟨h9.1, by simp [h9.2]⟩)), hS9.F ht⟩) hS9.2.2 (Nat.le_of_ble_eq_true rfl) (Nat.le_of_ble_eq_true rfl)
  replace hB_1 := (show va_P (dC, dI) vwCl (offW a g) t_1.heap from hB_1)
  rw [ht_1] at hB_1
  have hP := hB_1
  refine lv_aload_n hx hb dX11_job_8 rfl (lv_at hl 0 rfl) ?_
  refine va_get (D := (dC, dI)) (ci := 13) (v := .int 0) (C := RX11) (T := TX11) (N := 13) hx hb hts hiX11 hown hK hP 0 (o_0 a g) rfl 12 (by decide) hf82 (fun _ h9 => h9) rfl dX11_job_9 ?_
  refine lv_if_ne (tgt := 25) hx hb dX11_job_12 (by decide) (fun c_2 => absurd (by decide) c_2) (fun c_2 => ?_)
  obtain ⟨sa, hsa⟩ := st_27 hG
  exact vx_throwS hx hb hlf (own := RX11) (cls := "java/lang/IllegalStateException") (text := "there is no job") (names := ["java/lang/RuntimeException", "java/lang/Exception"]) (ik := 245) (is := 247) (ic := 249) hown rfl (by decide) hcl245 hini_IllegalStateException hsa (vx_hat (B := [.castable "java/lang/IllegalStateException" "java/lang/IllegalStateException", .declares (Bundle.initS "java/lang/RuntimeException"), .declares (Bundle.initS "java/lang/Exception"), .declares (Bundle.initS "java/lang/Throwable")]) (fun w h => hts w (List.mem_cons_of_mem _ (by first | exact List.mem_append_right _ h | exact List.mem_append_left _ (List.mem_append_right _ h) | exact List.mem_append_left _ (List.mem_append_left _ (List.mem_append_right _ h))))) (by decide +kernel) (vx_c (xc_2 hG) (vx_c (dc_0 hG) (vx_c (dc_1 hG) (vx_c (dc_2 hG) vx_n))))) (by decide +kernel) hG.2.2.2.1 hG.2.2.2.2.1 hS (hl.1.trans hml.symm) dX11_job_15 dX11_job_18 dX11_job_19 dX11_job_21 dX11_job_24 (fun x hx => (hno x hx).elim) (Nat.le_of_ble_eq_true rfl) (Nat.le_of_ble_eq_true rfl) (Nat.le_of_ble_eq_true rfl) (Nat.le_of_ble_eq_true rfl) hlocks (fun t hW hz hk => ⟨(), trivial, (Or.inr ⟨rfl, by simp [hw_1], by simp []⟩), F_of hS hz hk⟩) hS.2.2 (Nat.le_of_ble_eq_true rfl) (Nat.le_of_ble_eq_true rfl)
set_option maxHeartbeats 4000000 in
set_option maxRecDepth 100000 in
theorem c_X11_tear (l : Launch) (hlf : l.stackTraces = false) (dC : Nat → ClassId) (dI : Nat → Nat → Nat) (g : Nat → ClassId) (a : Nat → Nat) (sz : Nat) : vx_Met l yX11_tear wsX11_tear ({ frames := 7, cells := 8, slots := 48, locals := 102 }) (va_Pc [.ref (a 0)] (PG (dC, dI) g (offW a g) sz)) (va_Qi (fun (_ : Int32) (_ : Unit) => False) (fun (_ : Unit) (_ : State) => True) (va_A (offW a g) sz)) (vx_X (fun _ : Unit => True) (fun E _ _ => E = "java/lang/IllegalStateException" ∧ false = false) (va_A (offW a g) sz)) 8 48 (va_A (offW a g) sz) := by
  refine vx_ofW (cc := cX11_tear) (maxL := 1) (ret := (some .int)) (by decide) rfl ?_
  intro p e s m args below meth c s₁ B hml hno hv
  obtain ⟨rfl, hsz, hP, hK, hD0, hG⟩ := hv
  have hx := B.exec
  have hb := B.bytes
  have hr := B.returns
  have hts := atoms_spec (ws := wsX11_tear) B.pre
  have hown : s.vm.findClass RX11 = some m.cls := findClass_of_methodNamed B.named
  have hlocks := B.notSynchronized
  subst hsz
  have hD := hD0.self (sz := s.heap.size)
  generalize hAe : va_A (offW a g) s.heap.size = A at hD hG ⊢
  have hA : ∀ q : Nat, s.heap.size ≤ q → A q := fun q h => by rw [← hAe]; exact Or.inr h
  have hS : va_S A s.heap s.heap [] := va_S.rf
  have hl := lv_entry ([.ref (a 0)]) (n := 1) (Nat.le_of_ble_eq_true rfl)
  rw [lg_entry_eq]
  generalize (lg_sl ([.ref (a 0)]) ++ List.replicate (1 - (lg_sl ([.ref (a 0)])).length) Slot.unset).toArray = ls at hl ⊢
  have hl : lv_has ls 1 [(0, .ref (a 0))] := hl
  refine lv_aload_n hx hb dX11_tear_0 rfl (lv_at hl 0 rfl) ?_
  refine vx_callv (vx_runV (As := []) (rest := []) ⟨hx, hb, hml, hown, hts⟩ (c_X11_demandJobUnderWay l hlf dC dI g a  s.heap.size) (cwV 0 hts gX11_tear_X11_demandJobUnderWay rfl rfl rfl (by decide +kernel) ⟨Nat.le_of_ble_eq_true rfl, Nat.le_of_ble_eq_true rfl⟩) ⟨PG_blind, va_recv hK hP (ci := 13) (q0 := 0) rfl (o_0 a g), PG_call hK hG hS hP hD (A_all hD hA hS.1)⟩ rfl rfl hl.1 rfl (lv_room (Nat.le_of_ble_eq_true rfl)) dX11_tear_1 ⟨Nat.le_of_ble_eq_true rfl, Nat.le_of_ble_eq_true rfl⟩) hS (fun q _ h => (A_all hD hA hS.1) q h) (A_all hD hA hS.1) (fun q _ h => (A_all hD hA hS.1) q h) (fun E ce q9 u t H1 locs1 ht hvm hp9 hB9 hz hk hS9 hce hcv hcl => ?_) (fun u_1 t_1 H_1 L_1 ht_1 hvm_1 hw_1 hB_1 hz_1 hk_1 hS => ?_)
  · exact vx_out (fun x hx => (hno x hx).elim) hlocks hce hcv hcl (fun t ht hW => ⟨(), trivial, (by have h9 : E = "java/lang/IllegalStateException" := hB9; exact ⟨h9, by simp []⟩), hS9.F ht⟩) hS9.2.2 (Nat.le_of_ble_eq_true rfl) (Nat.le_of_ble_eq_true rfl)
  · exact (hw_1).elim
