theorem ggL_plan_X11_plan_h : GoodIn wsL_plan [.code yX11_plan cX11_plan 4 (some .int)] := goodIn_r _ [6] (by decide +kernel) (by decide +kernel)
theorem ggL_plan_X11_plan_0 : GoodIn wsL_plan wsX11_plan_r1 := goodIn_r _ [7, 8, 9, 10, 11, 12, 13, 14, 5, 15, 16, 17, 18, 19, 20, 21, 22, 23, 24, 25, 26, 27, 28, 29] (by decide +kernel) (by decide +kernel)
theorem ggL_plan_X11_plan_1 : GoodIn wsL_plan wsX11_plan_r2 := goodIn_r _ [30, 31, 32, 33, 34, 35, 36, 37, 38, 39, 40, 41, 42, 43, 44, 45, 46, 47, 48, 49, 50, 51, 52, 53] (by decide +kernel) (by decide +kernel)
theorem ggL_plan_X11_plan_2 : GoodIn wsL_plan wsX11_plan_r3 := goodIn_r _ [54, 55, 56, 57, 58, 59, 60, 61, 62, 63, 64, 65, 66, 67, 68, 69, 70, 71, 72, 73, 74, 75, 76, 77] (by decide +kernel) (by decide +kernel)
theorem ggL_plan_X11_plan_3 : GoodIn wsL_plan wsX11_plan_r4 := goodIn_r _ [78, 79, 80, 81, 82, 83, 84, 85, 86, 87, 88, 89, 90, 91, 92, 93, 94, 95, 96, 97, 98, 99, 100, 101] (by decide +kernel) (by decide +kernel)
theorem ggL_plan_X11_plan_4 : GoodIn wsL_plan wsX11_plan_r5 := goodIn_r _ [102, 103, 104, 105, 106, 107, 108, 109, 110, 111, 112, 113, 114, 115, 116, 117, 118, 119, 120, 121, 122, 123, 124, 125] (by decide +kernel) (by decide +kernel)
theorem ggL_plan_X11_plan_5 : GoodIn wsL_plan wsX11_plan_r6 := goodIn_r _ [126, 127, 128, 129, 130, 131, 132, 133, 134, 135, 136, 137, 138, 139, 140, 141, 142, 143, 144, 145, 146, 147, 148, 149] (by decide +kernel) (by decide +kernel)
theorem ggL_plan_X11_plan_6 : GoodIn wsL_plan wsX11_plan_r7 := goodIn_r _ [150, 151, 152, 153, 154, 155, 156, 157, 158, 159, 160, 161, 162, 163, 164, 165, 166, 167, 168, 169, 170, 171, 172, 173] (by decide +kernel) (by decide +kernel)
theorem ggL_plan_X11_plan_7 : GoodIn wsL_plan wsX11_plan_r8 := goodIn_r _ [174, 175, 176, 177, 178, 179, 180, 181] (by decide +kernel) (by decide +kernel)
theorem ggL_plan_X11_plan_8 : GoodIn wsL_plan wsX110 := goodIn_r _ [182, 183, 184, 185, 186, 187, 188, 189, 190, 191, 192, 193, 194] (by decide +kernel) (by decide +kernel)
theorem ggL_plan_X11_plan_9 : GoodIn wsL_plan wsX40 := goodIn_r _ [195, 196, 197, 198, 199, 200, 201, 202] (by decide +kernel) (by decide +kernel)
theorem ggL_plan_X11_plan_10 : GoodIn wsL_plan wsX30 := goodIn_r _ [203, 204, 205, 206, 207, 208] (by decide +kernel) (by decide +kernel)
theorem ggL_plan_X11_plan_11 : GoodIn wsL_plan wsX80 := goodIn_r _ [209, 210, 211, 212, 213] (by decide +kernel) (by decide +kernel)
theorem ggL_plan_X11_plan_12 : GoodIn wsL_plan wsX70 := goodIn_r _ [214, 215, 216, 217, 218] (by decide +kernel) (by decide +kernel)
theorem ggL_plan_X11_plan_13 : GoodIn wsL_plan wsX60 := goodIn_r _ [219, 220, 221] (by decide +kernel) (by decide +kernel)
theorem ggL_plan_X11_plan_14 : GoodIn wsL_plan wsX90 := goodIn_r _ [222, 223] (by decide +kernel) (by decide +kernel)
theorem ggL_plan_X11_plan_15 : GoodIn wsL_plan wsX00 := goodIn_r _ [224, 225, 226] (by decide +kernel) (by decide +kernel)
set_option maxRecDepth 20000 in
theorem ggL_plan_X11_plan : GoodIn wsL_plan wsX11_plan := goodIn_ca (goodIn_ca (fun w h => (List.mem_cons.mp h).elim (fun e => ggL_plan_X11_plan_h w (List.mem_singleton.mpr e)) (fun h => (goodIn_app (goodIn_app (goodIn_app (goodIn_app (goodIn_app (goodIn_app (goodIn_app (goodIn_app (goodIn_app ggL_plan_X11_plan_0 (goodIn_app ggL_plan_X11_plan_1 (goodIn_app ggL_plan_X11_plan_2 (goodIn_app ggL_plan_X11_plan_3 (goodIn_app ggL_plan_X11_plan_4 (goodIn_app ggL_plan_X11_plan_5 (goodIn_app ggL_plan_X11_plan_6 ggL_plan_X11_plan_7))))))) ggL_plan_X11_plan_8) ggL_plan_X11_plan_9) ggL_plan_X11_plan_10) ggL_plan_X11_plan_11) ggL_plan_X11_plan_12) ggL_plan_X11_plan_13) ggL_plan_X11_plan_14) ggL_plan_X11_plan_15) w h)) (goodIn_sub (fun _ h => List.mem_cons_of_mem _ (List.mem_append_left _ (List.mem_append_right _ h))) (by decide +kernel))) (goodIn_sub (fun _ h => List.mem_cons_of_mem _ (List.mem_append_right _ h)) (by decide +kernel))
set_option maxRecDepth 20000 in
theorem gL_plan_X11_plan : GoodIn wsL_plan (wsV RL 74 RX11 yX11_plan wsX11_plan) := goodIn_app (goodIn_of _ (by decide +kernel)) ggL_plan_X11_plan
theorem dL_plan_0 : decode cL_plan 0 = .ok (.aload_n 3, 1) := by decide +kernel
theorem dL_plan_1 : decode cL_plan 1 = .ok (.iconst 0, 1) := by decide +kernel
theorem dL_plan_2 : decode cL_plan 2 = .ok (.aload_n 0, 1) := by decide +kernel
theorem dL_plan_3 : decode cL_plan 3 = .ok (.iload_n 1, 1) := by decide +kernel
theorem dL_plan_4 : decode cL_plan 4 = .ok (.iload_n 2, 1) := by decide +kernel
theorem dL_plan_5 : decode cL_plan 5 = .ok (.invokevirtual 74, 3) := by decide +kernel
theorem dL_plan_13 : decode cL_plan 13 = .ok (.astore 4, 2) := by decide +kernel
theorem dL_plan_15 : decode cL_plan 15 = .ok (.iconst 1, 1) := by decide +kernel
theorem dL_plan_16 : decode cL_plan 16 = .ok (.ireturn, 1) := by decide +kernel
theorem dL_plan_17 : decode cL_plan 17 = .ok (.astore 4, 2) := by decide +kernel
theorem dL_plan_19 : decode cL_plan 19 = .ok (.iconst 2, 1) := by decide +kernel
theorem dL_plan_20 : decode cL_plan 20 = .ok (.ireturn, 1) := by decide +kernel
theorem dL_plan_8 : decode cL_plan 8 = .ok (.i2l, 1) := by decide +kernel
theorem dL_plan_9 : decode cL_plan 9 = .ok (.lastore, 1) := by decide +kernel
theorem dL_plan_10 : decode cL_plan 10 = .ok (.goto 11, 3) := by decide +kernel
theorem dL_plan_21 : decode cL_plan 21 = .ok (.iconst 0, 1) := by decide +kernel
theorem dL_plan_22 : decode cL_plan 22 = .ok (.ireturn, 1) := by decide +kernel
theorem dL_leastMoves_0 : decode cL_leastMoves 0 = .ok (.aload_n 2, 1) := by decide +kernel
theorem dL_leastMoves_1 : decode cL_leastMoves 1 = .ok (.iconst 0, 1) := by decide +kernel
theorem dL_leastMoves_2 : decode cL_leastMoves 2 = .ok (.aload_n 0, 1) := by decide +kernel
theorem dL_leastMoves_3 : decode cL_leastMoves 3 = .ok (.iload_n 1, 1) := by decide +kernel
set_option maxRecDepth 20000 in
theorem ggL_leastMoves_X11_leastMoves : GoodIn wsL_leastMoves wsX11_leastMoves := goodIn_ca (goodIn_r _ [6, 7, 8, 9, 10, 11, 12, 13, 14, 5, 15, 16, 17, 18, 19, 20, 21, 22, 23, 24, 25, 26, 27, 28, 29, 30, 31, 32, 33, 34, 35, 36, 37, 38, 39, 40, 41, 42, 43, 44, 45, 46, 47, 48, 49, 50, 51, 52, 53, 54, 55, 56, 57, 58, 59, 60, 61, 62, 63, 64, 65, 66, 67, 68, 69, 70, 71, 72, 73, 74, 75, 76, 77, 78, 79, 80, 81, 82, 83, 84, 85, 86, 87, 88, 89, 90, 91, 92, 93, 94, 95, 96, 97, 98, 99, 100, 101, 102, 103, 104, 105, 106, 107, 108, 109, 110, 111, 112, 113, 114, 115, 116, 117, 118, 119, 120, 121, 122, 123, 124, 125, 126, 127, 128, 129, 130, 131, 132, 133, 134, 135, 136, 137, 138, 139, 140, 141, 142, 143, 144, 145, 146, 147, 148, 149, 150, 151] (by decide +kernel) (by decide +kernel)) (goodIn_sub (fun _ h => List.mem_cons_of_mem _ (List.mem_append_right _ h)) (by decide +kernel))
set_option maxRecDepth 20000 in
theorem gL_leastMoves_X11_leastMoves : GoodIn wsL_leastMoves (wsV RL 77 RX11 yX11_leastMoves wsX11_leastMoves) := goodIn_app (goodIn_of _ (by decide +kernel)) ggL_leastMoves_X11_leastMoves
theorem dL_leastMoves_4 : decode cL_leastMoves 4 = .ok (.invokevirtual 77, 3) := by decide +kernel
theorem dL_leastMoves_12 : decode cL_leastMoves 12 = .ok (.astore_n 3, 1) := by decide +kernel
theorem dL_leastMoves_13 : decode cL_leastMoves 13 = .ok (.iconst 1, 1) := by decide +kernel
theorem dL_leastMoves_14 : decode cL_leastMoves 14 = .ok (.ireturn, 1) := by decide +kernel
theorem dL_leastMoves_7 : decode cL_leastMoves 7 = .ok (.i2l, 1) := by decide +kernel
theorem dL_leastMoves_8 : decode cL_leastMoves 8 = .ok (.lastore, 1) := by decide +kernel
theorem dL_leastMoves_9 : decode cL_leastMoves 9 = .ok (.goto 6, 3) := by decide +kernel
theorem dL_leastMoves_15 : decode cL_leastMoves 15 = .ok (.iconst 0, 1) := by decide +kernel
theorem dL_leastMoves_16 : decode cL_leastMoves 16 = .ok (.ireturn, 1) := by decide +kernel
theorem dL_begin_0 : decode cL_begin 0 = .ok (.aload_n 3, 1) := by decide +kernel
theorem dL_begin_1 : decode cL_begin 1 = .ok (.iconst 0, 1) := by decide +kernel
theorem dL_begin_2 : decode cL_begin 2 = .ok (.aload_n 0, 1) := by decide +kernel
theorem dL_begin_3 : decode cL_begin 3 = .ok (.iload_n 1, 1) := by decide +kernel
theorem dL_begin_4 : decode cL_begin 4 = .ok (.iload_n 2, 1) := by decide +kernel
set_option maxRecDepth 20000 in
theorem ggL_begin_X11_begin : GoodIn wsL_begin wsX11_begin := goodIn_ca (goodIn_r _ [6, 7, 8, 9, 10, 11, 12, 13, 5, 14, 15, 16, 17, 18, 19, 20, 21, 22, 23, 24, 25, 26, 27, 28, 29, 30, 31, 32, 33, 34, 35, 36, 37, 38, 39, 40, 41, 42, 43, 44, 45, 46, 47, 48, 49, 50, 51, 52, 53, 54, 55, 56, 57, 58, 59, 60, 61, 62, 63, 64, 65, 66, 67, 68, 69, 70, 71, 72, 73, 74, 75, 76, 77, 78, 79, 80, 81, 82, 83, 84, 85, 86, 87, 88, 89, 90, 91, 92, 93, 94, 95, 96, 97, 98, 99, 100, 101, 102, 103, 104, 105, 106, 107, 108, 109, 110, 111, 112, 113, 114, 115, 116, 117, 118, 119, 120, 121, 122, 123, 124, 125, 126, 127, 128, 129, 130, 131, 132, 133, 134, 135, 136, 137, 138, 139, 140, 141, 142, 143, 144, 145, 146, 147, 148, 149, 150, 151, 152, 153, 154, 155, 156, 157, 158, 159, 160, 161, 162, 163, 164, 165, 166, 167, 168, 169, 170, 171, 172, 173, 174, 175, 176, 177, 178, 179, 180, 181, 182, 183, 184, 185, 186, 187, 188, 189, 190, 191, 192, 193, 194, 195, 196, 197, 198, 199, 200, 201, 202, 203, 204] (by decide +kernel) (by decide +kernel)) (goodIn_sub (fun _ h => List.mem_cons_of_mem _ (List.mem_append_right _ h)) (by decide +kernel))
set_option maxRecDepth 20000 in
theorem gL_begin_X11_begin : GoodIn wsL_begin (wsV RL 80 RX11 yX11_begin wsX11_begin) := goodIn_app (goodIn_of _ (by decide +kernel)) ggL_begin_X11_begin
theorem dL_begin_5 : decode cL_begin 5 = .ok (.invokevirtual 80, 3) := by decide +kernel
theorem dL_begin_13 : decode cL_begin 13 = .ok (.astore 4, 2) := by decide +kernel
theorem dL_begin_15 : decode cL_begin 15 = .ok (.iconst 1, 1) := by decide +kernel
theorem dL_begin_16 : decode cL_begin 16 = .ok (.ireturn, 1) := by decide +kernel
theorem dL_begin_8 : decode cL_begin 8 = .ok (.i2l, 1) := by decide +kernel
theorem dL_begin_9 : decode cL_begin 9 = .ok (.lastore, 1) := by decide +kernel
theorem dL_begin_10 : decode cL_begin 10 = .ok (.goto 7, 3) := by decide +kernel
theorem dL_begin_17 : decode cL_begin 17 = .ok (.iconst 0, 1) := by decide +kernel
theorem dL_begin_18 : decode cL_begin 18 = .ok (.ireturn, 1) := by decide +kernel
set_option maxRecDepth 20000 in
theorem ggL_work_X11_work : GoodIn wsL_work wsX11_work := goodIn_ca (goodIn_ca (goodIn_ca (goodIn_r _ [6, 7, 8, 9, 10, 5, 11, 12, 13, 14, 15, 16, 17, 18, 19, 20, 21, 22, 23, 24, 25, 26, 27, 28, 29, 30, 31, 32, 33, 34, 35, 36, 37, 38, 39, 40, 41, 42, 43, 44, 45, 46, 47, 48, 49, 50, 51, 52, 53, 54, 55, 56, 57, 58, 59, 60, 61, 62, 63, 64, 65, 66, 67, 68, 69, 70, 71, 72, 73, 74, 75, 76, 77, 78, 79, 80, 81, 82, 83, 84, 85, 86, 87, 88, 89, 90, 91, 92, 93, 94, 95, 96, 97, 98, 99, 100, 101, 102, 103, 104, 105, 106, 107, 108, 109, 110, 111, 112, 113, 114, 115, 116, 117, 118, 119, 120, 121, 122, 123, 124, 125, 126, 127, 128, 129, 130, 131, 132, 133, 134, 135, 136, 137, 138, 139, 140, 141, 142, 143, 144, 145, 146, 147, 148, 149, 150, 151, 152, 153, 154, 155, 156, 157, 158, 159, 160, 161, 162, 163, 164, 165, 166, 167, 168, 169, 170, 171, 172, 173, 174, 175, 176, 177, 178, 179, 180, 181, 182, 183, 184, 185, 186, 187, 188, 189, 190, 191, 192, 193, 194, 195] (by decide +kernel) (by decide +kernel)) (goodIn_sub (fun _ h => List.mem_cons_of_mem _ (List.mem_append_left _ (List.mem_append_left _ (List.mem_append_right _ h)))) (by decide +kernel))) (goodIn_sub (fun _ h => List.mem_cons_of_mem _ (List.mem_append_left _ (List.mem_append_right _ h))) (by decide +kernel))) (goodIn_sub (fun _ h => List.mem_cons_of_mem _ (List.mem_append_right _ h)) (by decide +kernel))
set_option maxRecDepth 20000 in
theorem gL_work_X11_work : GoodIn wsL_work (wsV RL 83 RX11 yX11_work wsX11_work) := goodIn_app (goodIn_of _ (by decide +kernel)) ggL_work_X11_work
theorem dL_work_0 : decode cL_work 0 = .ok (.aload_n 2, 1) := by decide +kernel
theorem dL_work_1 : decode cL_work 1 = .ok (.iconst 0, 1) := by decide +kernel
theorem dL_work_2 : decode cL_work 2 = .ok (.aload_n 0, 1) := by decide +kernel
theorem dL_work_3 : decode cL_work 3 = .ok (.iload_n 1, 1) := by decide +kernel
theorem dL_work_4 : decode cL_work 4 = .ok (.invokevirtual 83, 3) := by decide +kernel
theorem dL_work_12 : decode cL_work 12 = .ok (.astore_n 3, 1) := by decide +kernel
theorem dL_work_13 : decode cL_work 13 = .ok (.iconst 1, 1) := by decide +kernel
theorem dL_work_14 : decode cL_work 14 = .ok (.ireturn, 1) := by decide +kernel
theorem dL_work_15 : decode cL_work 15 = .ok (.astore_n 3, 1) := by decide +kernel
theorem dL_work_16 : decode cL_work 16 = .ok (.iconst 2, 1) := by decide +kernel
theorem dL_work_17 : decode cL_work 17 = .ok (.ireturn, 1) := by decide +kernel
theorem dL_tear_0 : decode cL_tear 0 = .ok (.aload_n 1, 1) := by decide +kernel
theorem dL_tear_1 : decode cL_tear 1 = .ok (.iconst 0, 1) := by decide +kernel
theorem dL_tear_2 : decode cL_tear 2 = .ok (.aload_n 0, 1) := by decide +kernel
set_option maxRecDepth 20000 in
theorem ggL_tear_X11_tear : GoodIn wsL_tear wsX11_tear := goodIn_ca (goodIn_r _ [6, 7, 8, 9, 10, 5, 11, 12, 13, 14, 15, 16, 17, 18, 19, 20, 21, 22, 23, 24, 25, 26, 27, 28, 29, 30, 31, 32, 33, 34, 35, 36, 37, 38, 39, 40, 41, 42, 43, 44, 45, 46, 47, 48, 49, 50, 51, 52, 53, 54, 55, 56, 57, 58, 59, 60, 61, 62, 63, 64, 65, 66, 67, 68] (by decide +kernel) (by decide +kernel)) (goodIn_sub (fun _ h => List.mem_cons_of_mem _ (List.mem_append_right _ h)) (by decide +kernel))
set_option maxRecDepth 20000 in
theorem gL_tear_X11_tear : GoodIn wsL_tear (wsV RL 86 RX11 yX11_tear wsX11_tear) := goodIn_app (goodIn_of _ (by decide +kernel)) ggL_tear_X11_tear
theorem dL_tear_3 : decode cL_tear 3 = .ok (.invokevirtual 86, 3) := by decide +kernel
theorem dL_tear_11 : decode cL_tear 11 = .ok (.astore_n 2, 1) := by decide +kernel
theorem dL_tear_12 : decode cL_tear 12 = .ok (.iconst 1, 1) := by decide +kernel
theorem dL_tear_13 : decode cL_tear 13 = .ok (.ireturn, 1) := by decide +kernel
set_option maxRecDepth 20000 in
theorem ggL_job_X11_job : GoodIn wsL_job wsX11_job := goodIn_ca (goodIn_ca (goodIn_r _ [6, 7, 8, 9, 10, 11, 12, 13, 5, 14, 15, 16, 17, 18, 19, 20, 21, 22, 23, 24, 25, 26, 27, 28, 29, 30, 31, 32, 33, 34, 35, 36, 37, 38, 39, 40, 41, 42, 43, 44, 45, 46, 47, 48, 49, 50, 51, 52, 53, 54, 55, 56, 57, 58, 59, 60, 61, 62, 63, 64, 65, 66, 67, 68, 69, 70, 71, 72, 73] (by decide +kernel) (by decide +kernel)) (goodIn_sub (fun _ h => List.mem_cons_of_mem _ (List.mem_append_left _ (List.mem_append_right _ h))) (by decide +kernel))) (goodIn_sub (fun _ h => List.mem_cons_of_mem _ (List.mem_append_right _ h)) (by decide +kernel))
set_option maxRecDepth 20000 in
theorem gL_job_X11_job : GoodIn wsL_job (wsV RL 90 RX11 yX11_job wsX11_job) := goodIn_app (goodIn_of _ (by decide +kernel)) ggL_job_X11_job
theorem dL_job_0 : decode cL_job 0 = .ok (.aload_n 2, 1) := by decide +kernel
theorem dL_job_1 : decode cL_job 1 = .ok (.iconst 0, 1) := by decide +kernel
theorem dL_job_2 : decode cL_job 2 = .ok (.aload_n 0, 1) := by decide +kernel
theorem dL_job_3 : decode cL_job 3 = .ok (.iload_n 1, 1) := by decide +kernel
theorem dL_job_4 : decode cL_job 4 = .ok (.invokevirtual 90, 3) := by decide +kernel
theorem dL_job_12 : decode cL_job 12 = .ok (.astore_n 3, 1) := by decide +kernel
theorem dL_job_13 : decode cL_job 13 = .ok (.iconst 1, 1) := by decide +kernel
theorem dL_job_14 : decode cL_job 14 = .ok (.ireturn, 1) := by decide +kernel
theorem dL_job_15 : decode cL_job 15 = .ok (.astore_n 3, 1) := by decide +kernel
theorem dL_job_16 : decode cL_job 16 = .ok (.iconst 2, 1) := by decide +kernel
theorem dL_job_17 : decode cL_job 17 = .ok (.ireturn, 1) := by decide +kernel
theorem dL_sort_0 : decode cL_sort 0 = .ok (.aload_n 3, 1) := by decide +kernel
theorem dL_sort_1 : decode cL_sort 1 = .ok (.iconst 0, 1) := by decide +kernel
theorem dL_sort_2 : decode cL_sort 2 = .ok (.aload_n 0, 1) := by decide +kernel
theorem dL_sort_3 : decode cL_sort 3 = .ok (.iload_n 1, 1) := by decide +kernel
theorem dL_sort_4 : decode cL_sort 4 = .ok (.iload_n 2, 1) := by decide +kernel
theorem ggL_sort_X11_sort_h : GoodIn wsL_sort [.code yX11_sort cX11_sort 5 (some .int)] := goodIn_r _ [6] (by decide +kernel) (by decide +kernel)
theorem ggL_sort_X11_sort_0 : GoodIn wsL_sort wsX11_sort_r1 := goodIn_r _ [7, 8, 9, 10, 11, 12, 5, 13, 14, 15, 16, 17, 18, 19, 20, 21, 22, 23, 24, 25, 26, 27, 28, 29] (by decide +kernel) (by decide +kernel)
theorem ggL_sort_X11_sort_1 : GoodIn wsL_sort wsX11_sort_r2 := goodIn_r _ [30, 31, 32, 33, 34, 35, 36, 37, 38, 39, 40, 41, 42, 43, 44, 45, 46, 47, 48, 49, 50, 51, 52, 53] (by decide +kernel) (by decide +kernel)
theorem ggL_sort_X11_sort_2 : GoodIn wsL_sort wsX11_sort_r3 := goodIn_r _ [54, 55, 56, 57, 58, 59, 60, 61, 62, 63, 64, 65, 66, 67, 68, 69, 70, 71, 72, 73, 74, 75, 76, 77] (by decide +kernel) (by decide +kernel)
theorem ggL_sort_X11_sort_3 : GoodIn wsL_sort wsX11_sort_r4 := goodIn_r _ [78, 79, 80, 81, 82, 83, 84, 85, 86, 87, 88, 89, 90, 91, 92, 93, 94, 95, 96, 97, 98, 99, 100, 101] (by decide +kernel) (by decide +kernel)
theorem ggL_sort_X11_sort_4 : GoodIn wsL_sort wsX11_sort_r5 := goodIn_r _ [102, 103, 104, 105, 106, 107, 108, 109, 110, 111, 112, 113, 114, 115, 116, 117, 118, 119, 120, 121, 122, 123, 124, 125] (by decide +kernel) (by decide +kernel)
theorem ggL_sort_X11_sort_5 : GoodIn wsL_sort wsX11_sort_r6 := goodIn_r _ [126, 127, 128, 129, 130, 131, 132, 133, 134, 135, 136, 137, 138, 139, 140, 141, 142, 143, 144, 145, 146, 147, 148, 149] (by decide +kernel) (by decide +kernel)
theorem ggL_sort_X11_sort_6 : GoodIn wsL_sort wsX11_sort_r7 := goodIn_r _ [150, 151, 152, 153, 154, 155, 156, 157, 158, 159, 160, 161, 162, 163, 164, 165, 166, 167, 168, 169, 170, 171, 172, 173] (by decide +kernel) (by decide +kernel)
theorem ggL_sort_X11_sort_7 : GoodIn wsL_sort wsX11_sort_r8 := goodIn_r _ [174, 175, 176, 177, 178, 179, 180, 181, 182, 183, 184, 185, 186, 187, 188, 189, 190, 191, 192, 193, 194, 195, 196, 197] (by decide +kernel) (by decide +kernel)
theorem ggL_sort_X11_sort_8 : GoodIn wsL_sort wsX11_sort_r9 := goodIn_r _ [198, 199, 200, 201, 202, 203, 204, 205, 206, 207, 208, 209, 210, 211, 212, 213, 214, 215, 216, 217] (by decide +kernel) (by decide +kernel)
theorem ggL_sort_X11_sort_9 : GoodIn wsL_sort wsX110 := goodIn_r _ [218, 219, 220, 221, 222, 223, 224, 225, 226, 227, 228, 229, 230] (by decide +kernel) (by decide +kernel)
theorem ggL_sort_X11_sort_10 : GoodIn wsL_sort wsX20 := goodIn_r _ [231, 232, 233, 234, 235, 236, 237, 238, 239, 240, 241, 242, 243, 244, 245] (by decide +kernel) (by decide +kernel)
theorem ggL_sort_X11_sort_11 : GoodIn wsL_sort wsX70 := goodIn_r _ [246, 247, 248, 249, 250] (by decide +kernel) (by decide +kernel)
theorem ggL_sort_X11_sort_12 : GoodIn wsL_sort wsX90 := goodIn_r _ [251, 252] (by decide +kernel) (by decide +kernel)
theorem ggL_sort_X11_sort_13 : GoodIn wsL_sort wsX80 := goodIn_r _ [253, 254, 255, 256, 257] (by decide +kernel) (by decide +kernel)
theorem ggL_sort_X11_sort_14 : GoodIn wsL_sort wsX60 := goodIn_r _ [258, 259, 260] (by decide +kernel) (by decide +kernel)
theorem ggL_sort_X11_sort_15 : GoodIn wsL_sort wsX00 := goodIn_r _ [261, 262, 263] (by decide +kernel) (by decide +kernel)
theorem ggL_sort_X11_sort_16 : GoodIn wsL_sort wsX30 := goodIn_r _ [264, 265, 266, 267, 268, 269] (by decide +kernel) (by decide +kernel)
set_option maxRecDepth 20000 in
theorem ggL_sort_X11_sort : GoodIn wsL_sort wsX11_sort := goodIn_ca (fun w h => (List.mem_cons.mp h).elim (fun e => ggL_sort_X11_sort_h w (List.mem_singleton.mpr e)) (fun h => (goodIn_app (goodIn_app (goodIn_app (goodIn_app (goodIn_app (goodIn_app (goodIn_app (goodIn_app (goodIn_app ggL_sort_X11_sort_0 (goodIn_app ggL_sort_X11_sort_1 (goodIn_app ggL_sort_X11_sort_2 (goodIn_app ggL_sort_X11_sort_3 (goodIn_app ggL_sort_X11_sort_4 (goodIn_app ggL_sort_X11_sort_5 (goodIn_app ggL_sort_X11_sort_6 (goodIn_app ggL_sort_X11_sort_7 ggL_sort_X11_sort_8)))))))) ggL_sort_X11_sort_9) ggL_sort_X11_sort_10) ggL_sort_X11_sort_11) ggL_sort_X11_sort_12) ggL_sort_X11_sort_13) ggL_sort_X11_sort_14) ggL_sort_X11_sort_15) ggL_sort_X11_sort_16) w h)) (goodIn_sub (fun _ h => List.mem_cons_of_mem _ (List.mem_append_right _ h)) (by decide +kernel))
set_option maxRecDepth 20000 in
theorem gL_sort_X11_sort : GoodIn wsL_sort (wsV RL 93 RX11 yX11_sort wsX11_sort) := goodIn_app (goodIn_of _ (by decide +kernel)) ggL_sort_X11_sort
theorem dL_sort_5 : decode cL_sort 5 = .ok (.invokevirtual 93, 3) := by decide +kernel
theorem dL_sort_13 : decode cL_sort 13 = .ok (.astore 4, 2) := by decide +kernel
theorem dL_sort_15 : decode cL_sort 15 = .ok (.iconst 1, 1) := by decide +kernel
theorem dL_sort_16 : decode cL_sort 16 = .ok (.ireturn, 1) := by decide +kernel
theorem dL_sort_8 : decode cL_sort 8 = .ok (.i2l, 1) := by decide +kernel
theorem dL_sort_9 : decode cL_sort 9 = .ok (.lastore, 1) := by decide +kernel
theorem dL_sort_10 : decode cL_sort 10 = .ok (.goto 7, 3) := by decide +kernel
theorem dL_sort_17 : decode cL_sort 17 = .ok (.iconst 0, 1) := by decide +kernel
theorem dL_sort_18 : decode cL_sort 18 = .ok (.ireturn, 1) := by decide +kernel
set_option maxRecDepth 20000 in
theorem ggL_combine_X11_combine : GoodIn wsL_combine wsX11_combine := goodIn_ca (goodIn_ca (goodIn_ca (goodIn_r _ [6, 7, 8, 9, 10, 11, 5, 12, 13, 14, 15, 16, 17, 18, 19, 20, 21, 22, 23, 24, 25, 26, 27, 28, 29, 30, 31, 32, 33, 34, 35, 36, 37, 38, 39, 40, 41, 42, 43, 44, 45, 46, 47, 48, 49, 50, 51, 52, 53, 54, 55, 56, 57, 58, 59, 60, 61, 62, 63, 64, 65, 66, 67, 68, 69, 70, 71, 72, 73, 74, 75, 76, 77, 78, 79, 80, 81, 82, 83, 84, 85, 86, 87, 88, 89, 90, 91, 92, 93, 94, 95, 96, 97, 98] (by decide +kernel) (by decide +kernel)) (goodIn_sub (fun _ h => List.mem_cons_of_mem _ (List.mem_append_left _ (List.mem_append_left _ (List.mem_append_right _ h)))) (by decide +kernel))) (goodIn_sub (fun _ h => List.mem_cons_of_mem _ (List.mem_append_left _ (List.mem_append_right _ h))) (by decide +kernel))) (goodIn_sub (fun _ h => List.mem_cons_of_mem _ (List.mem_append_right _ h)) (by decide +kernel))
set_option maxRecDepth 20000 in
theorem gL_combine_X11_combine : GoodIn wsL_combine (wsV RL 96 RX11 yX11_combine wsX11_combine) := goodIn_app (goodIn_of _ (by decide +kernel)) ggL_combine_X11_combine
theorem dL_combine_0 : decode cL_combine 0 = .ok (.aload 5, 2) := by decide +kernel
theorem dL_combine_2 : decode cL_combine 2 = .ok (.iconst 0, 1) := by decide +kernel
theorem dL_combine_3 : decode cL_combine 3 = .ok (.aload_n 0, 1) := by decide +kernel
theorem dL_combine_4 : decode cL_combine 4 = .ok (.iload_n 1, 1) := by decide +kernel
theorem dL_combine_5 : decode cL_combine 5 = .ok (.iload_n 2, 1) := by decide +kernel
theorem dL_combine_6 : decode cL_combine 6 = .ok (.iload_n 3, 1) := by decide +kernel
theorem dL_combine_7 : decode cL_combine 7 = .ok (.iload 4, 2) := by decide +kernel
theorem dL_combine_9 : decode cL_combine 9 = .ok (.invokevirtual 96, 3) := by decide +kernel
theorem dL_combine_17 : decode cL_combine 17 = .ok (.astore 6, 2) := by decide +kernel
theorem dL_combine_19 : decode cL_combine 19 = .ok (.iconst 1, 1) := by decide +kernel
theorem dL_combine_20 : decode cL_combine 20 = .ok (.ireturn, 1) := by decide +kernel
theorem dL_combine_21 : decode cL_combine 21 = .ok (.astore 6, 2) := by decide +kernel
theorem dL_combine_23 : decode cL_combine 23 = .ok (.iconst 2, 1) := by decide +kernel
theorem dL_combine_24 : decode cL_combine 24 = .ok (.ireturn, 1) := by decide +kernel
theorem dL_combine_12 : decode cL_combine 12 = .ok (.i2l, 1) := by decide +kernel
theorem dL_combine_13 : decode cL_combine 13 = .ok (.lastore, 1) := by decide +kernel
theorem dL_combine_14 : decode cL_combine 14 = .ok (.goto 15, 3) := by decide +kernel
theorem dL_combine_29 : decode cL_combine 29 = .ok (.iconst 0, 1) := by decide +kernel
theorem dL_combine_30 : decode cL_combine 30 = .ok (.ireturn, 1) := by decide +kernel
theorem dL_thin_0 : decode cL_thin 0 = .ok (.aload_n 3, 1) := by decide +kernel
theorem dL_thin_1 : decode cL_thin 1 = .ok (.iconst 0, 1) := by decide +kernel
theorem dL_thin_2 : decode cL_thin 2 = .ok (.aload_n 0, 1) := by decide +kernel
theorem dL_thin_3 : decode cL_thin 3 = .ok (.iload_n 1, 1) := by decide +kernel
theorem dL_thin_4 : decode cL_thin 4 = .ok (.iload_n 2, 1) := by decide +kernel
set_option maxRecDepth 20000 in
theorem ggL_thin_X11_thin : GoodIn wsL_thin wsX11_thin := goodIn_ca (goodIn_r _ [6, 7, 8, 9, 10, 5, 11, 12, 13, 14, 15, 16, 17, 18, 19, 20, 21, 22, 23, 24, 25, 26, 27, 28, 29, 30, 31, 32, 33, 34, 35, 36, 37, 38, 39, 40, 41, 42, 43, 44, 45, 46, 47, 48, 49, 50, 51, 52, 53, 54, 55, 56, 57] (by decide +kernel) (by decide +kernel)) (goodIn_sub (fun _ h => List.mem_cons_of_mem _ (List.mem_append_right _ h)) (by decide +kernel))
set_option maxRecDepth 20000 in
theorem gL_thin_X11_thin : GoodIn wsL_thin (wsV RL 99 RX11 yX11_thin wsX11_thin) := goodIn_app (goodIn_of _ (by decide +kernel)) ggL_thin_X11_thin
theorem dL_thin_5 : decode cL_thin 5 = .ok (.invokevirtual 99, 3) := by decide +kernel
theorem dL_thin_13 : decode cL_thin 13 = .ok (.astore 4, 2) := by decide +kernel
theorem dL_thin_15 : decode cL_thin 15 = .ok (.iconst 1, 1) := by decide +kernel
theorem dL_thin_16 : decode cL_thin 16 = .ok (.ireturn, 1) := by decide +kernel
theorem dL_thin_8 : decode cL_thin 8 = .ok (.i2l, 1) := by decide +kernel
theorem dL_thin_9 : decode cL_thin 9 = .ok (.lastore, 1) := by decide +kernel
theorem dL_thin_10 : decode cL_thin 10 = .ok (.goto 7, 3) := by decide +kernel
theorem dL_thin_17 : decode cL_thin 17 = .ok (.iconst 0, 1) := by decide +kernel
theorem dL_thin_18 : decode cL_thin 18 = .ok (.ireturn, 1) := by decide +kernel
theorem dL_find_0 : decode cL_find 0 = .ok (.aload_n 3, 1) := by decide +kernel
theorem dL_find_1 : decode cL_find 1 = .ok (.iconst 0, 1) := by decide +kernel
theorem dL_find_2 : decode cL_find 2 = .ok (.aload_n 0, 1) := by decide +kernel
theorem dL_find_3 : decode cL_find 3 = .ok (.iload_n 1, 1) := by decide +kernel
theorem dL_find_4 : decode cL_find 4 = .ok (.iload_n 2, 1) := by decide +kernel
set_option maxRecDepth 20000 in
theorem ggL_find_X11_find : GoodIn wsL_find wsX11_find := goodIn_ca (goodIn_ca (goodIn_r _ [6, 7, 8, 9, 10, 5, 11, 12, 13, 14, 15, 16, 17, 18, 19, 20, 21, 22, 23, 24, 25, 26, 27, 28, 29, 30, 31, 32, 33, 34, 35, 36, 37, 38, 39, 40, 41, 42, 43, 44, 45, 46, 47, 48, 49, 50, 51, 52, 53, 54, 55, 56, 57, 58, 59, 60, 61, 62, 63, 64, 65, 66, 67, 68] (by decide +kernel) (by decide +kernel)) (goodIn_sub (fun _ h => List.mem_cons_of_mem _ (List.mem_append_left _ (List.mem_append_right _ h))) (by decide +kernel))) (goodIn_sub (fun _ h => List.mem_cons_of_mem _ (List.mem_append_right _ h)) (by decide +kernel))
set_option maxRecDepth 20000 in
theorem gL_find_X11_find : GoodIn wsL_find (wsV RL 103 RX11 yX11_find wsX11_find) := goodIn_app (goodIn_of _ (by decide +kernel)) ggL_find_X11_find
theorem dL_find_5 : decode cL_find 5 = .ok (.invokevirtual 103, 3) := by decide +kernel
theorem dL_find_13 : decode cL_find 13 = .ok (.astore 4, 2) := by decide +kernel
theorem dL_find_15 : decode cL_find 15 = .ok (.iconst 1, 1) := by decide +kernel
theorem dL_find_16 : decode cL_find 16 = .ok (.ireturn, 1) := by decide +kernel
theorem dL_find_8 : decode cL_find 8 = .ok (.i2l, 1) := by decide +kernel
theorem dL_find_9 : decode cL_find 9 = .ok (.lastore, 1) := by decide +kernel
theorem dL_find_10 : decode cL_find 10 = .ok (.goto 11, 3) := by decide +kernel
theorem dL_find_21 : decode cL_find 21 = .ok (.iconst 0, 1) := by decide +kernel
theorem dL_find_22 : decode cL_find 22 = .ok (.ireturn, 1) := by decide +kernel
set_option maxRecDepth 20000 in
theorem ggL_floor_X11_floor : GoodIn wsL_floor wsX11_floor := goodIn_ca (goodIn_ca (goodIn_ca (goodIn_r _ [6, 7, 8, 9, 10, 11, 12, 5, 13, 14, 15, 16, 17, 18, 19, 20, 21, 22, 23, 24, 25, 26, 27, 28, 29, 30, 31, 32, 33, 34, 35, 36, 37, 38, 39, 40, 41, 42, 43, 44, 45, 46, 47, 48, 49, 50, 51, 52, 53, 54, 55, 56, 57, 58, 59, 60, 61, 62, 63, 64, 65, 66, 67, 68, 69, 70] (by decide +kernel) (by decide +kernel)) (goodIn_sub (fun _ h => List.mem_cons_of_mem _ (List.mem_append_left _ (List.mem_append_left _ (List.mem_append_right _ h)))) (by decide +kernel))) (goodIn_sub (fun _ h => List.mem_cons_of_mem _ (List.mem_append_left _ (List.mem_append_right _ h))) (by decide +kernel))) (goodIn_sub (fun _ h => List.mem_cons_of_mem _ (List.mem_append_right _ h)) (by decide +kernel))
set_option maxRecDepth 20000 in
theorem gL_floor_X11_floor : GoodIn wsL_floor (wsV RL 106 RX11 yX11_floor wsX11_floor) := goodIn_app (goodIn_of _ (by decide +kernel)) ggL_floor_X11_floor
theorem dL_floor_0 : decode cL_floor 0 = .ok (.aload_n 3, 1) := by decide +kernel
theorem dL_floor_1 : decode cL_floor 1 = .ok (.iconst 0, 1) := by decide +kernel
theorem dL_floor_2 : decode cL_floor 2 = .ok (.aload_n 0, 1) := by decide +kernel
theorem dL_floor_3 : decode cL_floor 3 = .ok (.iload_n 1, 1) := by decide +kernel
theorem dL_floor_4 : decode cL_floor 4 = .ok (.iload_n 2, 1) := by decide +kernel
theorem dL_floor_5 : decode cL_floor 5 = .ok (.invokevirtual 106, 3) := by decide +kernel
theorem dL_floor_13 : decode cL_floor 13 = .ok (.astore 4, 2) := by decide +kernel
theorem dL_floor_15 : decode cL_floor 15 = .ok (.iconst 1, 1) := by decide +kernel
theorem dL_floor_16 : decode cL_floor 16 = .ok (.ireturn, 1) := by decide +kernel
theorem dL_floor_21 : decode cL_floor 21 = .ok (.astore 4, 2) := by decide +kernel
theorem dL_floor_23 : decode cL_floor 23 = .ok (.iconst 3, 1) := by decide +kernel
theorem dL_floor_24 : decode cL_floor 24 = .ok (.ireturn, 1) := by decide +kernel
set_option maxRecDepth 20000 in
theorem ggL_ceiling_X11_ceiling : GoodIn wsL_ceiling wsX11_ceiling := goodIn_ca (goodIn_ca (goodIn_ca (goodIn_r _ [6, 7, 8, 9, 10, 11, 12, 5, 13, 14, 15, 16, 17, 18, 19, 20, 21, 22, 23, 24, 25, 26, 27, 28, 29, 30, 31, 32, 33, 34, 35, 36, 37, 38, 39, 40, 41, 42, 43, 44, 45, 46, 47, 48, 49, 50, 51, 52, 53, 54, 55, 56, 57, 58, 59, 60, 61, 62, 63, 64, 65, 66, 67, 68, 69, 70] (by decide +kernel) (by decide +kernel)) (goodIn_sub (fun _ h => List.mem_cons_of_mem _ (List.mem_append_left _ (List.mem_append_left _ (List.mem_append_right _ h)))) (by decide +kernel))) (goodIn_sub (fun _ h => List.mem_cons_of_mem _ (List.mem_append_left _ (List.mem_append_right _ h))) (by decide +kernel))) (goodIn_sub (fun _ h => List.mem_cons_of_mem _ (List.mem_append_right _ h)) (by decide +kernel))
set_option maxRecDepth 20000 in
theorem gL_ceiling_X11_ceiling : GoodIn wsL_ceiling (wsV RL 111 RX11 yX11_ceiling wsX11_ceiling) := goodIn_app (goodIn_of _ (by decide +kernel)) ggL_ceiling_X11_ceiling
theorem dL_ceiling_0 : decode cL_ceiling 0 = .ok (.aload_n 3, 1) := by decide +kernel
theorem dL_ceiling_1 : decode cL_ceiling 1 = .ok (.iconst 0, 1) := by decide +kernel
theorem dL_ceiling_2 : decode cL_ceiling 2 = .ok (.aload_n 0, 1) := by decide +kernel
theorem dL_ceiling_3 : decode cL_ceiling 3 = .ok (.iload_n 1, 1) := by decide +kernel
theorem dL_ceiling_4 : decode cL_ceiling 4 = .ok (.iload_n 2, 1) := by decide +kernel
theorem dL_ceiling_5 : decode cL_ceiling 5 = .ok (.invokevirtual 111, 3) := by decide +kernel
theorem dL_ceiling_13 : decode cL_ceiling 13 = .ok (.astore 4, 2) := by decide +kernel
theorem dL_ceiling_15 : decode cL_ceiling 15 = .ok (.iconst 1, 1) := by decide +kernel
theorem dL_ceiling_16 : decode cL_ceiling 16 = .ok (.ireturn, 1) := by decide +kernel
theorem dL_ceiling_21 : decode cL_ceiling 21 = .ok (.astore 4, 2) := by decide +kernel
theorem dL_ceiling_23 : decode cL_ceiling 23 = .ok (.iconst 3, 1) := by decide +kernel
theorem dL_ceiling_24 : decode cL_ceiling 24 = .ok (.ireturn, 1) := by decide +kernel
theorem dL_between_0 : decode cL_between 0 = .ok (.aload 4, 2) := by decide +kernel
theorem dL_between_2 : decode cL_between 2 = .ok (.iconst 0, 1) := by decide +kernel
theorem dL_between_3 : decode cL_between 3 = .ok (.aload_n 0, 1) := by decide +kernel
theorem dL_between_4 : decode cL_between 4 = .ok (.iload_n 1, 1) := by decide +kernel
theorem dL_between_5 : decode cL_between 5 = .ok (.iload_n 2, 1) := by decide +kernel
theorem dL_between_6 : decode cL_between 6 = .ok (.iload_n 3, 1) := by decide +kernel
set_option maxRecDepth 20000 in
theorem ggL_between_X11_between : GoodIn wsL_between wsX11_between := goodIn_ca (goodIn_ca (goodIn_r _ [6, 7, 8, 9, 10, 11, 12, 13, 14, 5, 15, 16, 17, 18, 19, 20, 21, 22, 23, 24, 25, 26, 27, 28, 29, 30, 31, 32, 33, 34, 35, 36, 37, 38, 39, 40, 41, 42, 43, 44, 45, 46, 47, 48, 49, 50, 51, 52, 53, 54, 55, 56, 57, 58, 59, 60, 61, 62, 63, 64, 65, 66, 67, 68, 69, 70, 71, 72, 73, 74, 75] (by decide +kernel) (by decide +kernel)) (goodIn_sub (fun _ h => List.mem_cons_of_mem _ (List.mem_append_left _ (List.mem_append_right _ h))) (by decide +kernel))) (goodIn_sub (fun _ h => List.mem_cons_of_mem _ (List.mem_append_right _ h)) (by decide +kernel))
set_option maxRecDepth 20000 in
theorem gL_between_X11_between : GoodIn wsL_between (wsV RL 114 RX11 yX11_between wsX11_between) := goodIn_app (goodIn_of _ (by decide +kernel)) ggL_between_X11_between
theorem dL_between_7 : decode cL_between 7 = .ok (.invokevirtual 114, 3) := by decide +kernel
theorem dL_between_15 : decode cL_between 15 = .ok (.astore 5, 2) := by decide +kernel
theorem dL_between_17 : decode cL_between 17 = .ok (.iconst 1, 1) := by decide +kernel
theorem dL_between_18 : decode cL_between 18 = .ok (.ireturn, 1) := by decide +kernel
theorem dL_between_10 : decode cL_between 10 = .ok (.i2l, 1) := by decide +kernel
theorem dL_between_11 : decode cL_between 11 = .ok (.lastore, 1) := by decide +kernel
theorem dL_between_12 : decode cL_between 12 = .ok (.goto 11, 3) := by decide +kernel
theorem dL_between_23 : decode cL_between 23 = .ok (.iconst 0, 1) := by decide +kernel
theorem dL_between_24 : decode cL_between 24 = .ok (.ireturn, 1) := by decide +kernel
theorem dL_keys_0 : decode cL_keys 0 = .ok (.aload_n 2, 1) := by decide +kernel
theorem dL_keys_1 : decode cL_keys 1 = .ok (.iconst 0, 1) := by decide +kernel
theorem dL_keys_2 : decode cL_keys 2 = .ok (.aload_n 0, 1) := by decide +kernel
theorem dL_keys_3 : decode cL_keys 3 = .ok (.iload_n 1, 1) := by decide +kernel
set_option maxRecDepth 20000 in
theorem ggL_keys_X11_keys : GoodIn wsL_keys wsX11_keys := goodIn_ca (goodIn_ca (goodIn_r _ [6, 7, 8, 9, 10, 5, 11, 12, 13, 14, 15, 16, 17, 18, 19, 20, 21, 22, 23, 24, 25, 26, 27, 28, 29, 30, 31, 32, 33, 34, 35, 36, 37, 38, 39, 40, 41, 42, 43, 44, 45, 46, 47, 48, 49, 50, 51, 52, 53, 54, 55, 56, 57, 58, 59, 60, 61, 62, 63] (by decide +kernel) (by decide +kernel)) (goodIn_sub (fun _ h => List.mem_cons_of_mem _ (List.mem_append_left _ (List.mem_append_right _ h))) (by decide +kernel))) (goodIn_sub (fun _ h => List.mem_cons_of_mem _ (List.mem_append_right _ h)) (by decide +kernel))
set_option maxRecDepth 20000 in
theorem gL_keys_X11_keys : GoodIn wsL_keys (wsV RL 117 RX11 yX11_keys wsX11_keys) := goodIn_app (goodIn_of _ (by decide +kernel)) ggL_keys_X11_keys
theorem dL_keys_4 : decode cL_keys 4 = .ok (.invokevirtual 117, 3) := by decide +kernel
theorem dL_keys_12 : decode cL_keys 12 = .ok (.astore_n 3, 1) := by decide +kernel
theorem dL_keys_13 : decode cL_keys 13 = .ok (.iconst 1, 1) := by decide +kernel
theorem dL_keys_14 : decode cL_keys 14 = .ok (.ireturn, 1) := by decide +kernel
theorem dL_keys_7 : decode cL_keys 7 = .ok (.i2l, 1) := by decide +kernel
theorem dL_keys_8 : decode cL_keys 8 = .ok (.lastore, 1) := by decide +kernel
theorem dL_keys_9 : decode cL_keys 9 = .ok (.goto 9, 3) := by decide +kernel
theorem dL_keys_18 : decode cL_keys 18 = .ok (.iconst 0, 1) := by decide +kernel
theorem dL_keys_19 : decode cL_keys 19 = .ok (.ireturn, 1) := by decide +kernel
theorem dL_type_0 : decode cL_type 0 = .ok (.aload_n 3, 1) := by decide +kernel
theorem dL_type_1 : decode cL_type 1 = .ok (.iconst 0, 1) := by decide +kernel
theorem dL_type_2 : decode cL_type 2 = .ok (.aload_n 0, 1) := by decide +kernel
theorem dL_type_3 : decode cL_type 3 = .ok (.lload_n 1, 1) := by decide +kernel
set_option maxRecDepth 20000 in
theorem ggL_type_X11_type : GoodIn wsL_type wsX11_type := goodIn_ca (goodIn_r _ [6, 7, 8, 9, 10, 11, 5, 12, 13, 14, 15, 16, 17, 18, 19, 20, 21, 22, 23, 24, 25, 26, 27, 28, 29, 30, 31, 32, 33, 34, 35, 36, 37, 38, 39, 40, 41, 42, 43, 44, 45, 46, 47, 48] (by decide +kernel) (by decide +kernel)) (goodIn_sub (fun _ h => List.mem_cons_of_mem _ (List.mem_append_right _ h)) (by decide +kernel))
set_option maxRecDepth 20000 in
theorem gL_type_X11_type : GoodIn wsL_type (wsV RL 120 RX11 yX11_type wsX11_type) := goodIn_app (goodIn_of _ (by decide +kernel)) ggL_type_X11_type
theorem dL_type_4 : decode cL_type 4 = .ok (.invokevirtual 120, 3) := by decide +kernel
theorem dL_type_7 : decode cL_type 7 = .ok (.i2l, 1) := by decide +kernel
theorem dL_type_8 : decode cL_type 8 = .ok (.lastore, 1) := by decide +kernel
theorem dL_type_9 : decode cL_type 9 = .ok (.goto 7, 3) := by decide +kernel
theorem dL_type_16 : decode cL_type 16 = .ok (.iconst 0, 1) := by decide +kernel
theorem dL_type_17 : decode cL_type 17 = .ok (.ireturn, 1) := by decide +kernel
theorem dL_example_0 : decode cL_example 0 = .ok (.aload_n 2, 1) := by decide +kernel
theorem dL_example_1 : decode cL_example 1 = .ok (.iconst 0, 1) := by decide +kernel
theorem dL_example_2 : decode cL_example 2 = .ok (.aload_n 0, 1) := by decide +kernel
theorem dL_example_3 : decode cL_example 3 = .ok (.iload_n 1, 1) := by decide +kernel
set_option maxRecDepth 20000 in
theorem ggL_example_X11_example : GoodIn wsL_example wsX11_example := goodIn_ca (goodIn_r _ [6, 7, 8, 9, 10, 5, 11, 12, 13, 14, 15, 16, 17, 18, 19, 20, 21, 22, 23, 24, 25, 26, 27, 28, 29, 30, 31, 32, 33, 34, 35, 36, 37, 38, 39, 40, 41, 42, 43, 44, 45, 46, 47, 48, 49, 50, 51, 52, 53, 54, 55, 56, 57, 58, 59, 60, 61, 62, 63, 64, 65, 66, 67, 68, 69, 70, 71, 72, 73, 74, 75, 76, 77, 78, 79, 80, 81, 82, 83, 84, 85, 86, 87, 88, 89, 90, 91, 92, 93, 94, 95, 96, 97, 98, 99, 100, 101, 102, 103, 104, 105] (by decide +kernel) (by decide +kernel)) (goodIn_sub (fun _ h => List.mem_cons_of_mem _ (List.mem_append_right _ h)) (by decide +kernel))
set_option maxRecDepth 20000 in
theorem gL_example_X11_example : GoodIn wsL_example (wsV RL 124 RX11 yX11_example wsX11_example) := goodIn_app (goodIn_of _ (by decide +kernel)) ggL_example_X11_example
theorem dL_example_4 : decode cL_example 4 = .ok (.invokevirtual 124, 3) := by decide +kernel
theorem dL_example_12 : decode cL_example 12 = .ok (.astore_n 3, 1) := by decide +kernel
theorem dL_example_13 : decode cL_example 13 = .ok (.iconst 1, 1) := by decide +kernel
theorem dL_example_14 : decode cL_example 14 = .ok (.ireturn, 1) := by decide +kernel
theorem dL_example_7 : decode cL_example 7 = .ok (.i2l, 1) := by decide +kernel
theorem dL_example_8 : decode cL_example 8 = .ok (.lastore, 1) := by decide +kernel
theorem dL_example_9 : decode cL_example 9 = .ok (.goto 6, 3) := by decide +kernel
theorem dL_example_15 : decode cL_example 15 = .ok (.iconst 0, 1) := by decide +kernel
theorem dL_example_16 : decode cL_example 16 = .ok (.ireturn, 1) := by decide +kernel
theorem dL_run_0 : decode cL_run 0 = .ok (.aload_n 1, 1) := by decide +kernel
theorem dL_run_1 : decode cL_run 1 = .ok (.iconst 0, 1) := by decide +kernel
theorem dL_run_2 : decode cL_run 2 = .ok (.aload_n 0, 1) := by decide +kernel
theorem ggL_run_X11_run_h : GoodIn wsL_run [.code yX11_run cX11_run 3 (some .int)] := goodIn_r _ [6] (by decide +kernel) (by decide +kernel)
theorem ggL_run_X11_run_0 : GoodIn wsL_run wsX11_run_r1 := goodIn_r _ [7, 8, 9, 10, 11, 12, 13, 14, 5, 15, 16, 17, 18, 19, 20, 21, 22, 23, 24, 25, 26, 27, 28, 29] (by decide +kernel) (by decide +kernel)
theorem ggL_run_X11_run_1 : GoodIn wsL_run wsX11_run_r2 := goodIn_r _ [30, 31, 32, 33, 34, 35, 36, 37, 38, 39, 40, 41, 42, 43, 44, 45, 46, 47, 48, 49, 50, 51, 52, 53] (by decide +kernel) (by decide +kernel)
theorem ggL_run_X11_run_2 : GoodIn wsL_run wsX11_run_r3 := goodIn_r _ [54, 55, 56, 57, 58, 59, 60, 61, 62, 63, 64, 65, 66, 67, 68, 69, 70, 71, 72, 73, 74, 75, 76, 77] (by decide +kernel) (by decide +kernel)
theorem ggL_run_X11_run_3 : GoodIn wsL_run wsX11_run_r4 := goodIn_r _ [78, 79, 80, 81, 82, 83, 84, 85, 86, 87, 88, 89, 90, 91, 92, 93, 94, 95, 96, 97, 98, 99, 100, 101] (by decide +kernel) (by decide +kernel)
theorem ggL_run_X11_run_4 : GoodIn wsL_run wsX11_run_r5 := goodIn_r _ [102, 103, 104, 105, 106, 107, 108, 109, 110, 111, 112, 113, 114, 115, 116, 117, 118, 119, 120, 121, 122, 123, 124, 125] (by decide +kernel) (by decide +kernel)
theorem ggL_run_X11_run_5 : GoodIn wsL_run wsX11_run_r6 := goodIn_r _ [126, 127, 128, 129, 130, 131, 132, 133, 134, 135, 136, 137, 138, 139, 140, 141, 142, 143, 144, 145, 146, 147, 148, 149] (by decide +kernel) (by decide +kernel)
theorem ggL_run_X11_run_6 : GoodIn wsL_run wsX11_run_r7 := goodIn_r _ [150, 151, 152, 153, 154, 155, 156, 157, 158, 159, 160, 161, 162, 163, 164, 165, 166, 167, 168, 169, 170, 171, 172, 173] (by decide +kernel) (by decide +kernel)
theorem ggL_run_X11_run_7 : GoodIn wsL_run wsX11_run_r8 := goodIn_r _ [174, 175, 176, 177, 178, 179, 180, 181, 182, 183, 184, 185, 186, 187, 188, 189, 190, 191, 192, 193, 194, 195, 196, 197] (by decide +kernel) (by decide +kernel)
theorem ggL_run_X11_run_8 : GoodIn wsL_run wsX11_run_r9 := goodIn_r _ [198, 199, 200, 201, 202, 203, 204, 205, 206, 207, 208, 209, 210, 211, 212, 213, 214, 215, 216, 217, 218, 219, 220, 221] (by decide +kernel) (by decide +kernel)
theorem ggL_run_X11_run_9 : GoodIn wsL_run wsX11_run_r10 := goodIn_r _ [222, 223, 224, 225, 226, 227, 228, 229, 230, 231, 232, 233, 234, 235, 236, 237, 238, 239, 240, 241, 242, 243, 244, 245] (by decide +kernel) (by decide +kernel)
theorem ggL_run_X11_run_10 : GoodIn wsL_run wsX11_run_r11 := goodIn_r _ [246, 247, 248, 249, 250, 251, 252, 253, 254, 255, 256, 257, 258, 259, 260, 261, 262, 263, 264, 265, 266, 267, 268, 269] (by decide +kernel) (by decide +kernel)
theorem ggL_run_X11_run_11 : GoodIn wsL_run wsX11_run_r12 := goodIn_r _ [270, 271, 272, 273, 274, 275, 276, 277, 278, 279, 280, 281, 282, 283, 284, 285, 286, 287, 288, 289, 290, 291, 292, 293] (by decide +kernel) (by decide +kernel)
theorem ggL_run_X11_run_12 : GoodIn wsL_run wsX11_run_r13 := goodIn_r _ [294, 295, 296, 297, 298, 299, 300, 301, 302, 303, 304, 305, 306, 307, 308, 309, 310, 311, 312, 313, 314, 315, 316, 317] (by decide +kernel) (by decide +kernel)
theorem ggL_run_X11_run_13 : GoodIn wsL_run wsX11_run_r14 := goodIn_r _ [318, 319, 320, 321, 322, 323, 324, 325, 326, 327, 328, 329, 330, 331, 332, 333, 334, 335, 336, 337, 338, 339, 340, 341] (by decide +kernel) (by decide +kernel)
theorem ggL_run_X11_run_14 : GoodIn wsL_run wsX11_run_r15 := goodIn_r _ [342, 343, 344, 345, 346, 347, 348, 349, 350, 351, 352, 353, 354, 355, 356, 357, 358, 359, 360, 361, 362, 363, 364, 365] (by decide +kernel) (by decide +kernel)
theorem ggL_run_X11_run_15 : GoodIn wsL_run wsX11_run_r16 := goodIn_r _ [366, 367, 368, 369, 370, 371, 372, 373, 374, 375, 376, 377, 378, 379, 380, 381, 382, 383, 384, 385, 386, 387, 388, 389] (by decide +kernel) (by decide +kernel)
theorem ggL_run_X11_run_16 : GoodIn wsL_run wsX11_run_r17 := goodIn_r _ [390, 391, 392, 393, 394, 395, 396, 397, 398, 399, 400, 401, 402, 403, 404, 405, 406, 407, 408, 409, 410, 411, 412, 413] (by decide +kernel) (by decide +kernel)
theorem ggL_run_X11_run_17 : GoodIn wsL_run wsX11_run_r18 := goodIn_r _ [414, 415, 416] (by decide +kernel) (by decide +kernel)
theorem ggL_run_X11_run_18 : GoodIn wsL_run wsX110 := goodIn_r _ [417, 418, 419, 420, 421, 422, 423, 424, 425, 426, 427, 428, 429] (by decide +kernel) (by decide +kernel)
theorem ggL_run_X11_run_19 : GoodIn wsL_run wsX50 := goodIn_r _ [430, 431, 432, 433, 434, 435, 436, 437, 438, 439, 440, 441, 442] (by decide +kernel) (by decide +kernel)
theorem ggL_run_X11_run_20 : GoodIn wsL_run wsX100 := goodIn_r _ [443, 444] (by decide +kernel) (by decide +kernel)
theorem ggL_run_X11_run_21 : GoodIn wsL_run wsX80 := goodIn_r _ [445, 446, 447, 448, 449] (by decide +kernel) (by decide +kernel)
theorem ggL_run_X11_run_22 : GoodIn wsL_run wsX90 := goodIn_r _ [450, 451] (by decide +kernel) (by decide +kernel)
theorem ggL_run_X11_run_23 : GoodIn wsL_run wsX20 := goodIn_r _ [452, 453, 454, 455, 456, 457, 458, 459, 460, 461, 462, 463, 464, 465, 466] (by decide +kernel) (by decide +kernel)
theorem ggL_run_X11_run_24 : GoodIn wsL_run wsX70 := goodIn_r _ [467, 468, 469, 470, 471] (by decide +kernel) (by decide +kernel)
theorem ggL_run_X11_run_25 : GoodIn wsL_run wsX60 := goodIn_r _ [472, 473, 474] (by decide +kernel) (by decide +kernel)
theorem ggL_run_X11_run_26 : GoodIn wsL_run wsX00 := goodIn_r _ [475, 476, 477] (by decide +kernel) (by decide +kernel)
theorem ggL_run_X11_run_27 : GoodIn wsL_run wsX30 := goodIn_r _ [478, 479, 480, 481, 482, 483] (by decide +kernel) (by decide +kernel)
set_option maxRecDepth 20000 in
theorem ggL_run_X11_run : GoodIn wsL_run wsX11_run := goodIn_ca (fun w h => (List.mem_cons.mp h).elim (fun e => ggL_run_X11_run_h w (List.mem_singleton.mpr e)) (fun h => (goodIn_app (goodIn_app (goodIn_app (goodIn_app (goodIn_app (goodIn_app (goodIn_app (goodIn_app (goodIn_app (goodIn_app (goodIn_app ggL_run_X11_run_0 (goodIn_app ggL_run_X11_run_1 (goodIn_app ggL_run_X11_run_2 (goodIn_app ggL_run_X11_run_3 (goodIn_app ggL_run_X11_run_4 (goodIn_app ggL_run_X11_run_5 (goodIn_app ggL_run_X11_run_6 (goodIn_app ggL_run_X11_run_7 (goodIn_app ggL_run_X11_run_8 (goodIn_app ggL_run_X11_run_9 (goodIn_app ggL_run_X11_run_10 (goodIn_app ggL_run_X11_run_11 (goodIn_app ggL_run_X11_run_12 (goodIn_app ggL_run_X11_run_13 (goodIn_app ggL_run_X11_run_14 (goodIn_app ggL_run_X11_run_15 (goodIn_app ggL_run_X11_run_16 ggL_run_X11_run_17))))))))))))))))) ggL_run_X11_run_18) ggL_run_X11_run_19) ggL_run_X11_run_20) ggL_run_X11_run_21) ggL_run_X11_run_22) ggL_run_X11_run_23) ggL_run_X11_run_24) ggL_run_X11_run_25) ggL_run_X11_run_26) ggL_run_X11_run_27) w h)) (goodIn_sub (fun _ h => List.mem_cons_of_mem _ (List.mem_append_right _ h)) (by decide +kernel))
set_option maxRecDepth 20000 in
theorem gL_run_X11_run : GoodIn wsL_run (wsV RL 127 RX11 yX11_run wsX11_run) := goodIn_app (goodIn_of _ (by decide +kernel)) ggL_run_X11_run
theorem dL_run_3 : decode cL_run 3 = .ok (.invokevirtual 127, 3) := by decide +kernel
theorem dL_run_6 : decode cL_run 6 = .ok (.i2l, 1) := by decide +kernel
theorem dL_run_7 : decode cL_run 7 = .ok (.lastore, 1) := by decide +kernel
theorem dL_run_8 : decode cL_run 8 = .ok (.goto 6, 3) := by decide +kernel
theorem dL_run_14 : decode cL_run 14 = .ok (.iconst 0, 1) := by decide +kernel
theorem dL_run_15 : decode cL_run 15 = .ok (.ireturn, 1) := by decide +kernel
theorem dL_errors_0 : decode cL_errors 0 = .ok (.aload_n 2, 1) := by decide +kernel
theorem dL_errors_1 : decode cL_errors 1 = .ok (.iconst 0, 1) := by decide +kernel
theorem dL_errors_2 : decode cL_errors 2 = .ok (.aload_n 0, 1) := by decide +kernel
theorem dL_errors_3 : decode cL_errors 3 = .ok (.iload_n 1, 1) := by decide +kernel
theorem ggL_errors_X11_errors_h : GoodIn wsL_errors [.code yX11_errors cX11_errors 2 (some .int)] := goodIn_r _ [6] (by decide +kernel) (by decide +kernel)
theorem ggL_errors_X11_errors_0 : GoodIn wsL_errors wsX11_errors_r1 := goodIn_r _ [7, 8, 9, 10, 11, 12, 5, 13, 14, 15, 16, 17, 18, 19, 20, 21, 22, 23, 24, 25, 26, 27, 28, 29] (by decide +kernel) (by decide +kernel)
theorem ggL_errors_X11_errors_1 : GoodIn wsL_errors wsX11_errors_r2 := goodIn_r _ [30, 31, 32, 33, 34, 35, 36, 37, 38, 39, 40, 41, 42, 43, 44, 45, 46, 47, 48, 49, 50, 51, 52, 53] (by decide +kernel) (by decide +kernel)
theorem ggL_errors_X11_errors_2 : GoodIn wsL_errors wsX11_errors_r3 := goodIn_r _ [54, 55, 56, 57, 58, 59, 60, 61, 62, 63, 64, 65, 66, 67, 68, 69, 70, 71, 72, 73, 74, 75, 76, 77] (by decide +kernel) (by decide +kernel)
theorem ggL_errors_X11_errors_3 : GoodIn wsL_errors wsX11_errors_r4 := goodIn_r _ [78, 79, 80, 81, 82, 83, 84, 85, 86, 87, 88, 89, 90, 91, 92, 93, 94, 95, 96, 97, 98, 99, 100, 101] (by decide +kernel) (by decide +kernel)
theorem ggL_errors_X11_errors_4 : GoodIn wsL_errors wsX11_errors_r5 := goodIn_r _ [102, 103, 104, 105, 106, 107, 108, 109, 110, 111, 112, 113, 114, 115, 116, 117, 118, 119, 120, 121, 122, 123, 124, 125] (by decide +kernel) (by decide +kernel)
theorem ggL_errors_X11_errors_5 : GoodIn wsL_errors wsX11_errors_r6 := goodIn_r _ [126, 127, 128, 129, 130, 131, 132, 133, 134, 135, 136, 137, 138, 139, 140, 141, 142, 143, 144, 145, 146, 147, 148, 149] (by decide +kernel) (by decide +kernel)
theorem ggL_errors_X11_errors_6 : GoodIn wsL_errors wsX11_errors_r7 := goodIn_r _ [150, 151, 152, 153, 154, 155, 156, 157, 158, 159, 160, 161, 162, 163, 164, 165, 166, 167, 168, 169, 170, 171, 172, 173] (by decide +kernel) (by decide +kernel)
theorem ggL_errors_X11_errors_7 : GoodIn wsL_errors wsX11_errors_r8 := goodIn_r _ [174, 175, 176, 177, 178, 179, 180, 181, 182, 183, 184, 185, 186, 187, 188, 189, 190, 191, 192, 193, 194, 195, 196, 197] (by decide +kernel) (by decide +kernel)
theorem ggL_errors_X11_errors_8 : GoodIn wsL_errors wsX11_errors_r9 := goodIn_r _ [198, 199, 200, 201, 202, 203, 204, 205, 206, 207, 208, 209, 210, 211, 212, 213, 214, 215, 216, 217, 218, 219, 220, 221] (by decide +kernel) (by decide +kernel)
theorem ggL_errors_X11_errors_9 : GoodIn wsL_errors wsX11_errors_r10 := goodIn_r _ [222, 223, 224, 225, 226, 227, 228, 229, 230, 231, 232, 233, 234, 235, 236, 237, 238, 239, 240, 241, 242, 243, 244, 245] (by decide +kernel) (by decide +kernel)
theorem ggL_errors_X11_errors_10 : GoodIn wsL_errors wsX11_errors_r11 := goodIn_r _ [246, 247, 248, 249, 250, 251, 252, 253, 254, 255, 256, 257, 258, 259, 260, 261, 262, 263, 264, 265, 266, 267, 268, 269] (by decide +kernel) (by decide +kernel)
theorem ggL_errors_X11_errors_11 : GoodIn wsL_errors wsX11_errors_r12 := goodIn_r _ [270, 271, 272, 273, 274, 275, 276, 277, 278, 279, 280, 281, 282, 283, 284, 285, 286, 287, 288, 289, 290, 291, 292, 293] (by decide +kernel) (by decide +kernel)
theorem ggL_errors_X11_errors_12 : GoodIn wsL_errors wsX11_errors_r13 := goodIn_r _ [294, 295, 296, 297, 298, 299, 300, 301, 302, 303, 304, 305, 306, 307, 308, 309, 310, 311, 312, 313, 314, 315, 316, 317] (by decide +kernel) (by decide +kernel)
theorem ggL_errors_X11_errors_13 : GoodIn wsL_errors wsX11_errors_r14 := goodIn_r _ [318, 319, 320, 321] (by decide +kernel) (by decide +kernel)
theorem ggL_errors_X11_errors_14 : GoodIn wsL_errors wsX110 := goodIn_r _ [322, 323, 324, 325, 326, 327, 328, 329, 330, 331, 332, 333, 334] (by decide +kernel) (by decide +kernel)
theorem ggL_errors_X11_errors_15 : GoodIn wsL_errors wsX10 := goodIn_r _ [335, 336, 337, 338, 339, 340, 341, 342] (by decide +kernel) (by decide +kernel)
theorem ggL_errors_X11_errors_16 : GoodIn wsL_errors wsX80 := goodIn_r _ [343, 344, 345, 346, 347] (by decide +kernel) (by decide +kernel)
theorem ggL_errors_X11_errors_17 : GoodIn wsL_errors wsX70 := goodIn_r _ [348, 349, 350, 351, 352] (by decide +kernel) (by decide +kernel)
theorem ggL_errors_X11_errors_18 : GoodIn wsL_errors wsX60 := goodIn_r _ [353, 354, 355] (by decide +kernel) (by decide +kernel)
theorem ggL_errors_X11_errors_19 : GoodIn wsL_errors wsX90 := goodIn_r _ [356, 357] (by decide +kernel) (by decide +kernel)
theorem ggL_errors_X11_errors_20 : GoodIn wsL_errors wsX00 := goodIn_r _ [358, 359, 360] (by decide +kernel) (by decide +kernel)
theorem ggL_errors_X11_errors_21 : GoodIn wsL_errors wsX40 := goodIn_r _ [361, 362, 363, 364, 365, 366, 367, 368] (by decide +kernel) (by decide +kernel)
theorem ggL_errors_X11_errors_22 : GoodIn wsL_errors wsX20 := goodIn_r _ [369, 370, 371, 372, 373, 374, 375, 376, 377, 378, 379, 380, 381, 382, 383] (by decide +kernel) (by decide +kernel)
theorem ggL_errors_X11_errors_23 : GoodIn wsL_errors wsX30 := goodIn_r _ [384, 385, 386, 387, 388, 389] (by decide +kernel) (by decide +kernel)
set_option maxRecDepth 20000 in
theorem ggL_errors_X11_errors : GoodIn wsL_errors wsX11_errors := goodIn_ca (fun w h => (List.mem_cons.mp h).elim (fun e => ggL_errors_X11_errors_h w (List.mem_singleton.mpr e)) (fun h => (goodIn_app (goodIn_app (goodIn_app (goodIn_app (goodIn_app (goodIn_app (goodIn_app (goodIn_app (goodIn_app (goodIn_app (goodIn_app ggL_errors_X11_errors_0 (goodIn_app ggL_errors_X11_errors_1 (goodIn_app ggL_errors_X11_errors_2 (goodIn_app ggL_errors_X11_errors_3 (goodIn_app ggL_errors_X11_errors_4 (goodIn_app ggL_errors_X11_errors_5 (goodIn_app ggL_errors_X11_errors_6 (goodIn_app ggL_errors_X11_errors_7 (goodIn_app ggL_errors_X11_errors_8 (goodIn_app ggL_errors_X11_errors_9 (goodIn_app ggL_errors_X11_errors_10 (goodIn_app ggL_errors_X11_errors_11 (goodIn_app ggL_errors_X11_errors_12 ggL_errors_X11_errors_13))))))))))))) ggL_errors_X11_errors_14) ggL_errors_X11_errors_15) ggL_errors_X11_errors_16) ggL_errors_X11_errors_17) ggL_errors_X11_errors_18) ggL_errors_X11_errors_19) ggL_errors_X11_errors_20) ggL_errors_X11_errors_21) ggL_errors_X11_errors_22) ggL_errors_X11_errors_23) w h)) (goodIn_sub (fun _ h => List.mem_cons_of_mem _ (List.mem_append_right _ h)) (by decide +kernel))
set_option maxRecDepth 20000 in
theorem gL_errors_X11_errors : GoodIn wsL_errors (wsV RL 130 RX11 yX11_errors wsX11_errors) := goodIn_app (goodIn_of _ (by decide +kernel)) ggL_errors_X11_errors
theorem dL_errors_4 : decode cL_errors 4 = .ok (.invokevirtual 130, 3) := by decide +kernel
theorem dL_errors_12 : decode cL_errors 12 = .ok (.astore_n 3, 1) := by decide +kernel
theorem dL_errors_13 : decode cL_errors 13 = .ok (.iconst 1, 1) := by decide +kernel
theorem dL_errors_14 : decode cL_errors 14 = .ok (.ireturn, 1) := by decide +kernel
theorem dL_errors_7 : decode cL_errors 7 = .ok (.i2l, 1) := by decide +kernel
theorem dL_errors_8 : decode cL_errors 8 = .ok (.lastore, 1) := by decide +kernel
theorem dL_errors_9 : decode cL_errors 9 = .ok (.goto 6, 3) := by decide +kernel
theorem dL_errors_15 : decode cL_errors 15 = .ok (.iconst 0, 1) := by decide +kernel
theorem dL_errors_16 : decode cL_errors 16 = .ok (.ireturn, 1) := by decide +kernel
theorem dL_meanKey_0 : decode cL_meanKey 0 = .ok (.aload_n 2, 1) := by decide +kernel
theorem dL_meanKey_1 : decode cL_meanKey 1 = .ok (.iconst 0, 1) := by decide +kernel
theorem dL_meanKey_2 : decode cL_meanKey 2 = .ok (.aload_n 0, 1) := by decide +kernel
theorem dL_meanKey_3 : decode cL_meanKey 3 = .ok (.iload_n 1, 1) := by decide +kernel
set_option maxRecDepth 20000 in
theorem ggL_meanKey_X11_meanKey : GoodIn wsL_meanKey wsX11_meanKey := goodIn_ca (goodIn_r _ [6, 7, 8, 9, 10, 5, 11, 12, 13, 14, 15, 16, 17, 18, 19, 20, 21, 22, 23, 24, 25, 26, 27, 28, 29, 30, 31, 32, 33, 34, 35, 36, 37, 38, 39, 40, 41, 42, 43, 44, 45, 46, 47, 48, 49] (by decide +kernel) (by decide +kernel)) (goodIn_sub (fun _ h => List.mem_cons_of_mem _ (List.mem_append_right _ h)) (by decide +kernel))
set_option maxRecDepth 20000 in
theorem gL_meanKey_X11_meanKey : GoodIn wsL_meanKey (wsV RL 133 RX11 yX11_meanKey wsX11_meanKey) := goodIn_app (goodIn_of _ (by decide +kernel)) ggL_meanKey_X11_meanKey
theorem dL_meanKey_4 : decode cL_meanKey 4 = .ok (.invokevirtual 133, 3) := by decide +kernel
theorem dL_meanKey_11 : decode cL_meanKey 11 = .ok (.astore_n 3, 1) := by decide +kernel
theorem dL_meanKey_12 : decode cL_meanKey 12 = .ok (.iconst 1, 1) := by decide +kernel
theorem dL_meanKey_13 : decode cL_meanKey 13 = .ok (.ireturn, 1) := by decide +kernel
theorem dL_meanKey_7 : decode cL_meanKey 7 = .ok (.dastore, 1) := by decide +kernel
theorem dL_meanKey_8 : decode cL_meanKey 8 = .ok (.goto 6, 3) := by decide +kernel
theorem dL_meanKey_14 : decode cL_meanKey 14 = .ok (.iconst 0, 1) := by decide +kernel
theorem dL_meanKey_15 : decode cL_meanKey 15 = .ok (.ireturn, 1) := by decide +kernel
noncomputable def wsL_plan2 : List Cond := .codeWith yL_plan cL_plan 5 (some .int) [(0, 10, 13, 13), (0, 10, 17, 15)] :: (wsL_plan ++ [.classLink RL 15 "java/lang/IllegalArgumentException"])
theorem gL2_plan : GoodIn wsL_plan2 (wsV RL 74 RX11 yX11_plan wsX11_plan) := fun w h => ⟨List.mem_cons_of_mem _ (List.mem_append_left _ (gL_plan_X11_plan w h).1), (gL_plan_X11_plan w h).2⟩
set_option maxHeartbeats 4000000 in
set_option maxRecDepth 100000 in
theorem c_L_plan (l : Launch) (hlf : l.stackTraces = false) (dC : Nat → ClassId) (dI : Nat → Nat → Nat) (g : Nat → ClassId) (a : Nat → Nat) (x : Int32) (k : Int32) (ou : Nat) (f0 : Nat → Int64) (sz : Nat) : Met l yL_plan wsL_plan2 ({ frames := 8, cells := 8, slots := 48, locals := 128 }) (va_Pc [.ref (a 0), .int x, .int k, .ref ou] (PG (dC, dI) g (offW a g ++ [(ou, .inl (g 2, 1, .inr (.inl f0)))]) sz)) (va_Qi (fun (r : Int32) (fz : Nat → Int64) => r = (cd (TOKb x) (rngb k 0 3) true) ∧ ((cd (TOKb x) (rngb k 0 3) true) = 0 → fz 0 = (0 : Int32).toInt64)) (fun (fz : Nat → Int64) t => va_P (dC, dI) vwCl [(ou, .inl (g 2, 1, .inr (.inl fz)))] t.heap) (va_A (offW a g ++ [(ou, .inl (g 2, 1, .inr (.inl f0)))]) sz)) 8 48 (va_A (offW a g ++ [(ou, .inl (g 2, 1, .inr (.inl f0)))]) sz) := by
  refine mt_ofWH (cc := cL_plan) (maxL := 5) (ret := (some .int)) (by decide) rfl ?_
  intro p e s m args below meth c s₁ B hml hv
  obtain ⟨rfl, hsz, hP, hK, hD0, hG⟩ := hv
  have hx := B.exec
  have hb := B.bytes
  have hr := B.returns
  have hts := atoms_spec (ws := wsL_plan2) B.pre
  have hown : s.vm.findClass RL = some m.cls := findClass_of_methodNamed B.named
  have hlocks := B.notSynchronized
  have hTab := vx_table (x := yL_plan) B (hts (Cond.codeWith yL_plan cL_plan 5 (some .int) [(0, 10, 13, 13), (0, 10, 17, 15)]) (List.mem_cons_self))
  subst hsz
  have hD := hD0.self (sz := s.heap.size)
  generalize hAe : va_A (offW a g ++ [(ou, .inl (g 2, 1, .inr (.inl f0)))]) s.heap.size = A at hD hG ⊢
  have hA : ∀ q : Nat, s.heap.size ≤ q → A q := fun q h => by rw [← hAe]; exact Or.inr h
  have hS : va_S A s.heap s.heap [] := va_S.rf
  have hl := lv_entry ([.ref (a 0), .int x, .int k, .ref ou]) (n := 5) (Nat.le_of_ble_eq_true rfl)
  rw [lg_entry_eq]
  generalize (lg_sl ([.ref (a 0), .int x, .int k, .ref ou]) ++ List.replicate (5 - (lg_sl ([.ref (a 0), .int x, .int k, .ref ou])).length) Slot.unset).toArray = ls at hl ⊢
  have hl : lv_has ls 5 [(0, .ref (a 0)), (1, .int x), (2, .int k), (3, .ref ou)] := hl
  have hxl0 := hts (Cond.classLink RL 13 "java/lang/IndexOutOfBoundsException") (by decide +kernel)
  have hxl1 := hts (Cond.classLink RL 15 "java/lang/IllegalArgumentException") (by decide +kernel)
  refine lv_aload_n hx hb dL_plan_0 rfl (lv_at hl 3 rfl) ?_
  refine lv_iconst (v := 0) hx hb dL_plan_1 (by decide) ?_
  refine lv_aload_n hx hb dL_plan_2 rfl (lv_at hl 0 rfl) ?_
  refine lv_iload_n hx hb dL_plan_3 rfl (lv_at hl 1 rfl) ?_
  refine lv_iload_n hx hb dL_plan_4 rfl (lv_at hl 2 rfl) ?_
  have hDc := D_l hD
  have hPc := P_l hP
  have hFc : ∀ q, va_A (offW a g) s.heap.size q → A q := A_all hDc hA hS.1
  refine vx_calli (vx_runV (As := [.int x, .int k]) (rest := [.int 0, .ref ou]) ⟨hx, hb, hml, hown, hts⟩ (c_X11_plan l hlf dC dI g a x k s.heap.size) (cwV 2 hts gL2_plan rfl rfl rfl (by decide +kernel) ⟨Nat.le_of_ble_eq_true rfl, Nat.le_of_ble_eq_true rfl⟩) ⟨PG_blind, va_recv hK hP (ci := 13) (q0 := 0) rfl rfl, PG_call hK hG hS hPc hDc hFc⟩ rfl rfl hl.1 rfl (lv_room (Nat.le_of_ble_eq_true rfl)) dL_plan_5 ⟨Nat.le_of_ble_eq_true rfl, Nat.le_of_ble_eq_true rfl⟩) hS (fun q _ h => hFc q h) hFc (fun q _ h => hFc q h) (fun E ce q9 u t H1 locs1 ht9 hvm hp9 hB9 hz hk hS9 hce hcv hcl => ?_) (fun r_1 u_1 t_1 H_1 L_1 ht_1 hvm_1 hw_1 hB_1 hz_1 hk_1 hS => ?_)
  · have hP := rest_kept hP hD hk
    have hD := D_r hD
    have h9 : (E = "java/lang/IndexOutOfBoundsException" ∧ (TOKb x) = false) ∨ (E = "java/lang/IllegalArgumentException" ∧ TOKb x = true ∧ (rngb k 0 3) = false) := hB9
    rcases h9 with ⟨rfl, hc0⟩ | ⟨rfl, hc0, hc1⟩
    · refine vx_catch (own := RL) (name := "java/lang/IndexOutOfBoundsException") (E := "java/lang/IndexOutOfBoundsException") hown [] ⟨0, 10, 13, 13⟩ [⟨0, 10, 17, 15⟩] (by rw [hTab]; rfl) (fun z hz => absurd hz List.not_mem_nil) (by decide) (by decide) hxl0 (xc_0 hG) hce hcv hcl ?_
      have hS := hS9
      have ht_1 := ht9
      refine lv_astore (lv' := [(4, .ref q9), (0, .ref (a 0)), (1, .int x), (2, .int k), (3, .ref ou)]) hx hb dL_plan_13 hl (by decide) rfl (fun ls hl => ?_)
      refine lv_iconst (v := 1) hx hb dL_plan_15 (by decide) ?_
      exact W.iret (v := 1) hx hb hr (fun t ht hW => ⟨⟨1, f0, rfl, ⟨by simp [cd, hc0], fun h => absurd h (by simp [cd, hc0])⟩, P_at ht hP⟩, hS.F ht⟩) hS.2.2 dL_plan_16
    · refine vx_catch (own := RL) (name := "java/lang/IllegalArgumentException") (E := "java/lang/IllegalArgumentException") hown [⟨0, 10, 13, 13⟩] ⟨0, 10, 17, 15⟩ [] (by rw [hTab]; rfl) (fun z hz => (List.mem_cons.mp hz).elim (fun q => by subst q; exact Or.inr ⟨by decide, _, hxl0, nc_0 hG⟩) (fun hz => absurd hz List.not_mem_nil)) (by decide) (by decide) hxl1 (xc_1 hG) hce hcv hcl ?_
      have hS := hS9
      have ht_1 := ht9
      refine lv_astore (lv' := [(4, .ref q9), (0, .ref (a 0)), (1, .int x), (2, .int k), (3, .ref ou)]) hx hb dL_plan_17 hl (by decide) rfl (fun ls hl => ?_)
      refine lv_iconst (v := 2) hx hb dL_plan_19 (by decide) ?_
      exact W.iret (v := 2) hx hb hr (fun t ht hW => ⟨⟨2, f0, rfl, ⟨by simp [cd, hc0, hc1], fun h => absurd h (by simp [cd, hc0, hc1])⟩, P_at ht hP⟩, hS.F ht⟩) hS.2.2 dL_plan_20
  · have hP := rest_kept hP hD hk_1
    have hD := D_r hD
    obtain ⟨hc0, hc1, rfl⟩ := hw_1
    refine lv_i2l (v := (0 : Int32).toInt64) hx hb dL_plan_8 rfl ?_
    refine va_last hx hb hK hP hD hS 0 2 rfl rfl (by unfold vp_in; decide) dL_plan_9 (fun H_7 L_7 hP hD hS => ?_)
    have hP : va_P (dC, dI) vwCl [(ou, .inl (g 2, 1, .inr (.inl (vp_updL f0 (0 : Int32).toNatClampNeg ((0 : Int32).toInt64)))))] H_7 := hP
    refine lv_goto (tgt := 21) hx hb dL_plan_10 (by decide) ?_
    refine lv_iconst (v := 0) hx hb dL_plan_21 (by decide) ?_
    exact W.iret (v := 0) hx hb hr (fun t ht hW => ⟨⟨0, (vp_updL f0 (0 : Int32).toNatClampNeg ((0 : Int32).toInt64)), rfl, ⟨by simp [cd, hc0, hc1], fun _ => rfl⟩, P_at ht hP⟩, hS.F ht⟩) hS.2.2 dL_plan_22
set_option maxHeartbeats 4000000 in
set_option maxRecDepth 100000 in
theorem c_L_leastMoves (l : Launch) (hlf : l.stackTraces = false) (dC : Nat → ClassId) (dI : Nat → Nat → Nat) (g : Nat → ClassId) (a : Nat → Nat) (x : Int32) (ou : Nat) (f0 : Nat → Int64) (sz : Nat) : Met l yL_leastMoves wsL_leastMoves ({ frames := 8, cells := 8, slots := 48, locals := 124 }) (va_Pc [.ref (a 0), .int x, .ref ou] (PG (dC, dI) g (offW a g ++ [(ou, .inl (g 2, 1, .inr (.inl f0)))]) sz)) (va_Qi (fun (r : Int32) (fz : Nat → Int64) => r = (cd (TOKb x) true true) ∧ ((cd (TOKb x) true true) = 0 → fz 0 = (0 : Int32).toInt64)) (fun (fz : Nat → Int64) t => va_P (dC, dI) vwCl [(ou, .inl (g 2, 1, .inr (.inl fz)))] t.heap) (va_A (offW a g ++ [(ou, .inl (g 2, 1, .inr (.inl f0)))]) sz)) 8 48 (va_A (offW a g ++ [(ou, .inl (g 2, 1, .inr (.inl f0)))]) sz) := by
  refine mt_ofWH (cc := cL_leastMoves) (maxL := 4) (ret := (some .int)) (by decide) rfl ?_
  intro p e s m args below meth c s₁ B hml hv
  obtain ⟨rfl, hsz, hP, hK, hD0, hG⟩ := hv
  have hx := B.exec
  have hb := B.bytes
  have hr := B.returns
  have hts := atoms_spec (ws := wsL_leastMoves) B.pre
  have hown : s.vm.findClass RL = some m.cls := findClass_of_methodNamed B.named
  have hlocks := B.notSynchronized
  have hTab := vx_table (x := yL_leastMoves) B (hts (Cond.codeWith yL_leastMoves cL_leastMoves 4 (some .int) [(0, 9, 12, 13)]) (List.mem_cons_self))
  subst hsz
  have hD := hD0.self (sz := s.heap.size)
  generalize hAe : va_A (offW a g ++ [(ou, .inl (g 2, 1, .inr (.inl f0)))]) s.heap.size = A at hD hG ⊢
  have hA : ∀ q : Nat, s.heap.size ≤ q → A q := fun q h => by rw [← hAe]; exact Or.inr h
  have hS : va_S A s.heap s.heap [] := va_S.rf
  have hl := lv_entry ([.ref (a 0), .int x, .ref ou]) (n := 4) (Nat.le_of_ble_eq_true rfl)
  rw [lg_entry_eq]
  generalize (lg_sl ([.ref (a 0), .int x, .ref ou]) ++ List.replicate (4 - (lg_sl ([.ref (a 0), .int x, .ref ou])).length) Slot.unset).toArray = ls at hl ⊢
  have hl : lv_has ls 4 [(0, .ref (a 0)), (1, .int x), (2, .ref ou)] := hl
  have hxl0 := hts (Cond.classLink RL 13 "java/lang/IndexOutOfBoundsException") (by decide +kernel)
  refine lv_aload_n hx hb dL_leastMoves_0 rfl (lv_at hl 2 rfl) ?_
  refine lv_iconst (v := 0) hx hb dL_leastMoves_1 (by decide) ?_
  refine lv_aload_n hx hb dL_leastMoves_2 rfl (lv_at hl 0 rfl) ?_
  refine lv_iload_n hx hb dL_leastMoves_3 rfl (lv_at hl 1 rfl) ?_
  have hDc := D_l hD
  have hPc := P_l hP
  have hFc : ∀ q, va_A (offW a g) s.heap.size q → A q := A_all hDc hA hS.1
  refine vx_calli (vx_runV (As := [.int x]) (rest := [.int 0, .ref ou]) ⟨hx, hb, hml, hown, hts⟩ (c_X11_leastMoves l hlf dC dI g a x s.heap.size) (cwV 1 hts gL_leastMoves_X11_leastMoves rfl rfl rfl (by decide +kernel) ⟨Nat.le_of_ble_eq_true rfl, Nat.le_of_ble_eq_true rfl⟩) ⟨PG_blind, va_recv hK hP (ci := 13) (q0 := 0) rfl rfl, PG_call hK hG hS hPc hDc hFc⟩ rfl rfl hl.1 rfl (lv_room (Nat.le_of_ble_eq_true rfl)) dL_leastMoves_4 ⟨Nat.le_of_ble_eq_true rfl, Nat.le_of_ble_eq_true rfl⟩) hS (fun q _ h => hFc q h) hFc (fun q _ h => hFc q h) (fun E ce q9 u t H1 locs1 ht9 hvm hp9 hB9 hz hk hS9 hce hcv hcl => ?_) (fun r_1 u_1 t_1 H_1 L_1 ht_1 hvm_1 hw_1 hB_1 hz_1 hk_1 hS => ?_)
  · have hP := rest_kept hP hD hk
    have hD := D_r hD
    have h9 : E = "java/lang/IndexOutOfBoundsException" ∧ (TOKb x) = false := hB9
    rcases h9 with ⟨rfl, hc0⟩
    · refine vx_catch (own := RL) (name := "java/lang/IndexOutOfBoundsException") (E := "java/lang/IndexOutOfBoundsException") hown [] ⟨0, 9, 12, 13⟩ [] (by rw [hTab]; rfl) (fun z hz => absurd hz List.not_mem_nil) (by decide) (by decide) hxl0 (xc_0 hG) hce hcv hcl ?_
      have hS := hS9
      have ht_1 := ht9
      refine lv_astore_n (lv' := [(3, .ref q9), (0, .ref (a 0)), (1, .int x), (2, .ref ou)]) hx hb dL_leastMoves_12 rfl hl (by decide) rfl (fun ls hl => ?_)
      refine lv_iconst (v := 1) hx hb dL_leastMoves_13 (by decide) ?_
      exact W.iret (v := 1) hx hb hr (fun t ht hW => ⟨⟨1, f0, rfl, ⟨by simp [cd, hc0], fun h => absurd h (by simp [cd, hc0])⟩, P_at ht hP⟩, hS.F ht⟩) hS.2.2 dL_leastMoves_14
  · have hP := rest_kept hP hD hk_1
    have hD := D_r hD
    obtain ⟨hc0, rfl⟩ := hw_1
    refine lv_i2l (v := (0 : Int32).toInt64) hx hb dL_leastMoves_7 rfl ?_
    refine va_last hx hb hK hP hD hS 0 2 rfl rfl (by unfold vp_in; decide) dL_leastMoves_8 (fun H_7 L_7 hP hD hS => ?_)
    have hP : va_P (dC, dI) vwCl [(ou, .inl (g 2, 1, .inr (.inl (vp_updL f0 (0 : Int32).toNatClampNeg ((0 : Int32).toInt64)))))] H_7 := hP
    refine lv_goto (tgt := 15) hx hb dL_leastMoves_9 (by decide) ?_
    refine lv_iconst (v := 0) hx hb dL_leastMoves_15 (by decide) ?_
    exact W.iret (v := 0) hx hb hr (fun t ht hW => ⟨⟨0, (vp_updL f0 (0 : Int32).toNatClampNeg ((0 : Int32).toInt64)), rfl, ⟨by simp [cd, hc0], fun _ => rfl⟩, P_at ht hP⟩, hS.F ht⟩) hS.2.2 dL_leastMoves_16
set_option maxHeartbeats 4000000 in
set_option maxRecDepth 100000 in
theorem c_L_begin (l : Launch) (hlf : l.stackTraces = false) (dC : Nat → ClassId) (dI : Nat → Nat → Nat) (g : Nat → ClassId) (a : Nat → Nat) (x : Int32) (y : Int32) (ou : Nat) (f0 : Nat → Int64) (sz : Nat) : Met l yL_begin wsL_begin ({ frames := 8, cells := 8, slots := 48, locals := 128 }) (va_Pc [.ref (a 0), .int x, .int y, .ref ou] (PG (dC, dI) g (offW a g ++ [(ou, .inl (g 2, 1, .inr (.inl f0)))]) sz)) (va_Qi (fun (r : Int32) (fz : Nat → Int64) => r = (cd (TOKb x && TOKb y) true true) ∧ ((cd (TOKb x && TOKb y) true true) = 0 → fz 0 = (0 : Int32).toInt64)) (fun (fz : Nat → Int64) t => va_P (dC, dI) vwCl [(ou, .inl (g 2, 1, .inr (.inl fz)))] t.heap) (va_A (offW a g ++ [(ou, .inl (g 2, 1, .inr (.inl f0)))]) sz)) 8 48 (va_A (offW a g ++ [(ou, .inl (g 2, 1, .inr (.inl f0)))]) sz) := by
  refine mt_ofWH (cc := cL_begin) (maxL := 5) (ret := (some .int)) (by decide) rfl ?_
  intro p e s m args below meth c s₁ B hml hv
  obtain ⟨rfl, hsz, hP, hK, hD0, hG⟩ := hv
  have hx := B.exec
  have hb := B.bytes
  have hr := B.returns
  have hts := atoms_spec (ws := wsL_begin) B.pre
  have hown : s.vm.findClass RL = some m.cls := findClass_of_methodNamed B.named
  have hlocks := B.notSynchronized
  have hTab := vx_table (x := yL_begin) B (hts (Cond.codeWith yL_begin cL_begin 5 (some .int) [(0, 10, 13, 13)]) (List.mem_cons_self))
  subst hsz
  have hD := hD0.self (sz := s.heap.size)
  generalize hAe : va_A (offW a g ++ [(ou, .inl (g 2, 1, .inr (.inl f0)))]) s.heap.size = A at hD hG ⊢
  have hA : ∀ q : Nat, s.heap.size ≤ q → A q := fun q h => by rw [← hAe]; exact Or.inr h
  have hS : va_S A s.heap s.heap [] := va_S.rf
  have hl := lv_entry ([.ref (a 0), .int x, .int y, .ref ou]) (n := 5) (Nat.le_of_ble_eq_true rfl)
  rw [lg_entry_eq]
  generalize (lg_sl ([.ref (a 0), .int x, .int y, .ref ou]) ++ List.replicate (5 - (lg_sl ([.ref (a 0), .int x, .int y, .ref ou])).length) Slot.unset).toArray = ls at hl ⊢
  have hl : lv_has ls 5 [(0, .ref (a 0)), (1, .int x), (2, .int y), (3, .ref ou)] := hl
  have hxl0 := hts (Cond.classLink RL 13 "java/lang/IndexOutOfBoundsException") (by decide +kernel)
  refine lv_aload_n hx hb dL_begin_0 rfl (lv_at hl 3 rfl) ?_
  refine lv_iconst (v := 0) hx hb dL_begin_1 (by decide) ?_
  refine lv_aload_n hx hb dL_begin_2 rfl (lv_at hl 0 rfl) ?_
  refine lv_iload_n hx hb dL_begin_3 rfl (lv_at hl 1 rfl) ?_
  refine lv_iload_n hx hb dL_begin_4 rfl (lv_at hl 2 rfl) ?_
  have hDc := D_l hD
  have hPc := P_l hP
  have hFc : ∀ q, va_A (offW a g) s.heap.size q → A q := A_all hDc hA hS.1
  refine vx_calli (vx_runV (As := [.int x, .int y]) (rest := [.int 0, .ref ou]) ⟨hx, hb, hml, hown, hts⟩ (c_X11_begin l hlf dC dI g a x y s.heap.size) (cwV 2 hts gL_begin_X11_begin rfl rfl rfl (by decide +kernel) ⟨Nat.le_of_ble_eq_true rfl, Nat.le_of_ble_eq_true rfl⟩) ⟨PG_blind, va_recv hK hP (ci := 13) (q0 := 0) rfl rfl, PG_call hK hG hS hPc hDc hFc⟩ rfl rfl hl.1 rfl (lv_room (Nat.le_of_ble_eq_true rfl)) dL_begin_5 ⟨Nat.le_of_ble_eq_true rfl, Nat.le_of_ble_eq_true rfl⟩) hS (fun q _ h => hFc q h) hFc (fun q _ h => hFc q h) (fun E ce q9 u t H1 locs1 ht9 hvm hp9 hB9 hz hk hS9 hce hcv hcl => ?_) (fun r_1 u_1 t_1 H_1 L_1 ht_1 hvm_1 hw_1 hB_1 hz_1 hk_1 hS => ?_)
  · have hP := rest_kept hP hD hk
    have hD := D_r hD
    have h9 : E = "java/lang/IndexOutOfBoundsException" ∧ (TOKb x && TOKb y) = false := hB9
    rcases h9 with ⟨rfl, hc0⟩
    · refine vx_catch (own := RL) (name := "java/lang/IndexOutOfBoundsException") (E := "java/lang/IndexOutOfBoundsException") hown [] ⟨0, 10, 13, 13⟩ [] (by rw [hTab]; rfl) (fun z hz => absurd hz List.not_mem_nil) (by decide) (by decide) hxl0 (xc_0 hG) hce hcv hcl ?_
      have hS := hS9
      have ht_1 := ht9
      refine lv_astore (lv' := [(4, .ref q9), (0, .ref (a 0)), (1, .int x), (2, .int y), (3, .ref ou)]) hx hb dL_begin_13 hl (by decide) rfl (fun ls hl => ?_)
      refine lv_iconst (v := 1) hx hb dL_begin_15 (by decide) ?_
      exact W.iret (v := 1) hx hb hr (fun t ht hW => ⟨⟨1, f0, rfl, ⟨by simp [cd, hc0], fun h => absurd h (by simp [cd, hc0])⟩, P_at ht hP⟩, hS.F ht⟩) hS.2.2 dL_begin_16
  · have hP := rest_kept hP hD hk_1
    have hD := D_r hD
    obtain ⟨hc0, rfl⟩ := hw_1
    refine lv_i2l (v := (0 : Int32).toInt64) hx hb dL_begin_8 rfl ?_
    refine va_last hx hb hK hP hD hS 0 2 rfl rfl (by unfold vp_in; decide) dL_begin_9 (fun H_7 L_7 hP hD hS => ?_)
    have hP : va_P (dC, dI) vwCl [(ou, .inl (g 2, 1, .inr (.inl (vp_updL f0 (0 : Int32).toNatClampNeg ((0 : Int32).toInt64)))))] H_7 := hP
    refine lv_goto (tgt := 17) hx hb dL_begin_10 (by decide) ?_
    refine lv_iconst (v := 0) hx hb dL_begin_17 (by decide) ?_
    exact W.iret (v := 0) hx hb hr (fun t ht hW => ⟨⟨0, (vp_updL f0 (0 : Int32).toNatClampNeg ((0 : Int32).toInt64)), rfl, ⟨by simp [cd, hc0], fun _ => rfl⟩, P_at ht hP⟩, hS.F ht⟩) hS.2.2 dL_begin_18
noncomputable def wsL_work2 : List Cond := .codeWith yL_work cL_work 4 (some .int) [(0, 9, 12, 15), (0, 9, 15, 17)] :: (wsL_work ++ [.classLink RL 17 "java/lang/IllegalStateException"])
theorem gL2_work : GoodIn wsL_work2 (wsV RL 83 RX11 yX11_work wsX11_work) := fun w h => ⟨List.mem_cons_of_mem _ (List.mem_append_left _ (gL_work_X11_work w h).1), (gL_work_X11_work w h).2⟩
set_option maxHeartbeats 4000000 in
set_option maxRecDepth 100000 in
theorem c_L_work (l : Launch) (hlf : l.stackTraces = false) (dC : Nat → ClassId) (dI : Nat → Nat → Nat) (g : Nat → ClassId) (a : Nat → Nat) (x : Int32) (ou : Nat) (f0 : Nat → Int64) (sz : Nat) : Met l yL_work wsL_work2 ({ frames := 8, cells := 8, slots := 48, locals := 127 }) (va_Pc [.ref (a 0), .int x, .ref ou] (PG (dC, dI) g (offW a g ++ [(ou, .inl (g 2, 1, .inr (.inl f0)))]) sz)) (va_Qi (fun (r : Int32) (fz : Nat → Int64) => r = (cd (rngb x 1 200) false true) ∧ ((cd (rngb x 1 200) false true) = 0 → fz 0 = 0)) (fun (fz : Nat → Int64) t => va_P (dC, dI) vwCl [(ou, .inl (g 2, 1, .inr (.inl fz)))] t.heap) (va_A (offW a g ++ [(ou, .inl (g 2, 1, .inr (.inl f0)))]) sz)) 8 48 (va_A (offW a g ++ [(ou, .inl (g 2, 1, .inr (.inl f0)))]) sz) := by
  refine mt_ofWH (cc := cL_work) (maxL := 4) (ret := (some .int)) (by decide) rfl ?_
  intro p e s m args below meth c s₁ B hml hv
  obtain ⟨rfl, hsz, hP, hK, hD0, hG⟩ := hv
  have hx := B.exec
  have hb := B.bytes
  have hr := B.returns
  have hts := atoms_spec (ws := wsL_work2) B.pre
  have hown : s.vm.findClass RL = some m.cls := findClass_of_methodNamed B.named
  have hlocks := B.notSynchronized
  have hTab := vx_table (x := yL_work) B (hts (Cond.codeWith yL_work cL_work 4 (some .int) [(0, 9, 12, 15), (0, 9, 15, 17)]) (List.mem_cons_self))
  subst hsz
  have hD := hD0.self (sz := s.heap.size)
  generalize hAe : va_A (offW a g ++ [(ou, .inl (g 2, 1, .inr (.inl f0)))]) s.heap.size = A at hD hG ⊢
  have hA : ∀ q : Nat, s.heap.size ≤ q → A q := fun q h => by rw [← hAe]; exact Or.inr h
  have hS : va_S A s.heap s.heap [] := va_S.rf
  have hl := lv_entry ([.ref (a 0), .int x, .ref ou]) (n := 4) (Nat.le_of_ble_eq_true rfl)
  rw [lg_entry_eq]
  generalize (lg_sl ([.ref (a 0), .int x, .ref ou]) ++ List.replicate (4 - (lg_sl ([.ref (a 0), .int x, .ref ou])).length) Slot.unset).toArray = ls at hl ⊢
  have hl : lv_has ls 4 [(0, .ref (a 0)), (1, .int x), (2, .ref ou)] := hl
  have hxl0 := hts (Cond.classLink RL 15 "java/lang/IllegalArgumentException") (by decide +kernel)
  have hxl1 := hts (Cond.classLink RL 17 "java/lang/IllegalStateException") (by decide +kernel)
  refine lv_aload_n hx hb dL_work_0 rfl (lv_at hl 2 rfl) ?_
  refine lv_iconst (v := 0) hx hb dL_work_1 (by decide) ?_
  refine lv_aload_n hx hb dL_work_2 rfl (lv_at hl 0 rfl) ?_
  refine lv_iload_n hx hb dL_work_3 rfl (lv_at hl 1 rfl) ?_
  have hDc := D_l hD
  have hPc := P_l hP
  have hFc : ∀ q, va_A (offW a g) s.heap.size q → A q := A_all hDc hA hS.1
  refine vx_calli (vx_runV (As := [.int x]) (rest := [.int 0, .ref ou]) ⟨hx, hb, hml, hown, hts⟩ (c_X11_work l hlf dC dI g a x s.heap.size) (cwV 1 hts gL2_work rfl rfl rfl (by decide +kernel) ⟨Nat.le_of_ble_eq_true rfl, Nat.le_of_ble_eq_true rfl⟩) ⟨PG_blind, va_recv hK hP (ci := 13) (q0 := 0) rfl rfl, PG_call hK hG hS hPc hDc hFc⟩ rfl rfl hl.1 rfl (lv_room (Nat.le_of_ble_eq_true rfl)) dL_work_4 ⟨Nat.le_of_ble_eq_true rfl, Nat.le_of_ble_eq_true rfl⟩) hS (fun q _ h => hFc q h) hFc (fun q _ h => hFc q h) (fun E ce q9 u t H1 locs1 ht9 hvm hp9 hB9 hz hk hS9 hce hcv hcl => ?_) (fun r_1 u_1 t_1 H_1 L_1 ht_1 hvm_1 hw_1 hB_1 hz_1 hk_1 hS => ?_)
  · have hP := rest_kept hP hD hk
    have hD := D_r hD
    have h9 : (E = "java/lang/IllegalArgumentException" ∧ (rngb x 1 200) = false) ∨ (E = "java/lang/IllegalStateException" ∧ rngb x 1 200 = true ∧ false = false) := hB9
    rcases h9 with ⟨rfl, hc0⟩ | ⟨rfl, hc0, hc1⟩
    · refine vx_catch (own := RL) (name := "java/lang/IllegalArgumentException") (E := "java/lang/IllegalArgumentException") hown [] ⟨0, 9, 12, 15⟩ [⟨0, 9, 15, 17⟩] (by rw [hTab]; rfl) (fun z hz => absurd hz List.not_mem_nil) (by decide) (by decide) hxl0 (xc_1 hG) hce hcv hcl ?_
      have hS := hS9
      have ht_1 := ht9
      refine lv_astore_n (lv' := [(3, .ref q9), (0, .ref (a 0)), (1, .int x), (2, .ref ou)]) hx hb dL_work_12 rfl hl (by decide) rfl (fun ls hl => ?_)
      refine lv_iconst (v := 1) hx hb dL_work_13 (by decide) ?_
      exact W.iret (v := 1) hx hb hr (fun t ht hW => ⟨⟨1, f0, rfl, ⟨by simp [cd, hc0], fun h => absurd h (by simp [cd, hc0])⟩, P_at ht hP⟩, hS.F ht⟩) hS.2.2 dL_work_14
    · refine vx_catch (own := RL) (name := "java/lang/IllegalStateException") (E := "java/lang/IllegalStateException") hown [⟨0, 9, 12, 15⟩] ⟨0, 9, 15, 17⟩ [] (by rw [hTab]; rfl) (fun z hz => (List.mem_cons.mp hz).elim (fun q => by subst q; exact Or.inr ⟨by decide, _, hxl0, nc_2 hG⟩) (fun hz => absurd hz List.not_mem_nil)) (by decide) (by decide) hxl1 (xc_2 hG) hce hcv hcl ?_
      have hS := hS9
      have ht_1 := ht9
      refine lv_astore_n (lv' := [(3, .ref q9), (0, .ref (a 0)), (1, .int x), (2, .ref ou)]) hx hb dL_work_15 rfl hl (by decide) rfl (fun ls hl => ?_)
      refine lv_iconst (v := 2) hx hb dL_work_16 (by decide) ?_
      exact W.iret (v := 2) hx hb hr (fun t ht hW => ⟨⟨2, f0, rfl, ⟨by simp [cd, hc0, hc1], fun h => absurd h (by simp [cd, hc0, hc1])⟩, P_at ht hP⟩, hS.F ht⟩) hS.2.2 dL_work_17
  · exact hw_1.elim
set_option maxHeartbeats 4000000 in
set_option maxRecDepth 100000 in
theorem c_L_tear (l : Launch) (hlf : l.stackTraces = false) (dC : Nat → ClassId) (dI : Nat → Nat → Nat) (g : Nat → ClassId) (a : Nat → Nat) (ou : Nat) (f0 : Nat → Int64) (sz : Nat) : Met l yL_tear wsL_tear ({ frames := 8, cells := 8, slots := 48, locals := 122 }) (va_Pc [.ref (a 0), .ref ou] (PG (dC, dI) g (offW a g ++ [(ou, .inl (g 2, 1, .inr (.inl f0)))]) sz)) (va_Qi (fun (r : Int32) (fz : Nat → Int64) => r = (cd false true true) ∧ ((cd false true true) = 0 → fz 0 = 0)) (fun (fz : Nat → Int64) t => va_P (dC, dI) vwCl [(ou, .inl (g 2, 1, .inr (.inl fz)))] t.heap) (va_A (offW a g ++ [(ou, .inl (g 2, 1, .inr (.inl f0)))]) sz)) 8 48 (va_A (offW a g ++ [(ou, .inl (g 2, 1, .inr (.inl f0)))]) sz) := by
  refine mt_ofWH (cc := cL_tear) (maxL := 3) (ret := (some .int)) (by decide) rfl ?_
  intro p e s m args below meth c s₁ B hml hv
  obtain ⟨rfl, hsz, hP, hK, hD0, hG⟩ := hv
  have hx := B.exec
  have hb := B.bytes
  have hr := B.returns
  have hts := atoms_spec (ws := wsL_tear) B.pre
  have hown : s.vm.findClass RL = some m.cls := findClass_of_methodNamed B.named
  have hlocks := B.notSynchronized
  have hTab := vx_table (x := yL_tear) B (hts (Cond.codeWith yL_tear cL_tear 3 (some .int) [(0, 8, 11, 17)]) (List.mem_cons_self))
  subst hsz
  have hD := hD0.self (sz := s.heap.size)
  generalize hAe : va_A (offW a g ++ [(ou, .inl (g 2, 1, .inr (.inl f0)))]) s.heap.size = A at hD hG ⊢
  have hA : ∀ q : Nat, s.heap.size ≤ q → A q := fun q h => by rw [← hAe]; exact Or.inr h
  have hS : va_S A s.heap s.heap [] := va_S.rf
  have hl := lv_entry ([.ref (a 0), .ref ou]) (n := 3) (Nat.le_of_ble_eq_true rfl)
  rw [lg_entry_eq]
  generalize (lg_sl ([.ref (a 0), .ref ou]) ++ List.replicate (3 - (lg_sl ([.ref (a 0), .ref ou])).length) Slot.unset).toArray = ls at hl ⊢
  have hl : lv_has ls 3 [(0, .ref (a 0)), (1, .ref ou)] := hl
  have hxl0 := hts (Cond.classLink RL 17 "java/lang/IllegalStateException") (by decide +kernel)
  refine lv_aload_n hx hb dL_tear_0 rfl (lv_at hl 1 rfl) ?_
  refine lv_iconst (v := 0) hx hb dL_tear_1 (by decide) ?_
  refine lv_aload_n hx hb dL_tear_2 rfl (lv_at hl 0 rfl) ?_
  have hDc := D_l hD
  have hPc := P_l hP
  have hFc : ∀ q, va_A (offW a g) s.heap.size q → A q := A_all hDc hA hS.1
  refine vx_calli (vx_runV (As := []) (rest := [.int 0, .ref ou]) ⟨hx, hb, hml, hown, hts⟩ (c_X11_tear l hlf dC dI g a s.heap.size) (cwV 0 hts gL_tear_X11_tear rfl rfl rfl (by decide +kernel) ⟨Nat.le_of_ble_eq_true rfl, Nat.le_of_ble_eq_true rfl⟩) ⟨PG_blind, va_recv hK hP (ci := 13) (q0 := 0) rfl rfl, PG_call hK hG hS hPc hDc hFc⟩ rfl rfl hl.1 rfl (lv_room (Nat.le_of_ble_eq_true rfl)) dL_tear_3 ⟨Nat.le_of_ble_eq_true rfl, Nat.le_of_ble_eq_true rfl⟩) hS (fun q _ h => hFc q h) hFc (fun q _ h => hFc q h) (fun E ce q9 u t H1 locs1 ht9 hvm hp9 hB9 hz hk hS9 hce hcv hcl => ?_) (fun r_1 u_1 t_1 H_1 L_1 ht_1 hvm_1 hw_1 hB_1 hz_1 hk_1 hS => ?_)
  · have hP := rest_kept hP hD hk
    have hD := D_r hD
    have h9 : E = "java/lang/IllegalStateException" ∧ false = false := hB9
    rcases h9 with ⟨rfl, hc0⟩
    · refine vx_catch (own := RL) (name := "java/lang/IllegalStateException") (E := "java/lang/IllegalStateException") hown [] ⟨0, 8, 11, 17⟩ [] (by rw [hTab]; rfl) (fun z hz => absurd hz List.not_mem_nil) (by decide) (by decide) hxl0 (xc_2 hG) hce hcv hcl ?_
      have hS := hS9
      have ht_1 := ht9
      refine lv_astore_n (lv' := [(2, .ref q9), (0, .ref (a 0)), (1, .ref ou)]) hx hb dL_tear_11 rfl hl (by decide) rfl (fun ls hl => ?_)
      refine lv_iconst (v := 1) hx hb dL_tear_12 (by decide) ?_
      exact W.iret (v := 1) hx hb hr (fun t ht hW => ⟨⟨1, f0, rfl, ⟨by simp [cd, hc0], fun h => absurd h (by simp [cd, hc0])⟩, P_at ht hP⟩, hS.F ht⟩) hS.2.2 dL_tear_13
  · exact hw_1.elim
noncomputable def wsL_job2 : List Cond := .codeWith yL_job cL_job 4 (some .int) [(0, 9, 12, 15), (0, 9, 15, 17)] :: (wsL_job ++ [.classLink RL 17 "java/lang/IllegalStateException"])
theorem gL2_job : GoodIn wsL_job2 (wsV RL 90 RX11 yX11_job wsX11_job) := fun w h => ⟨List.mem_cons_of_mem _ (List.mem_append_left _ (gL_job_X11_job w h).1), (gL_job_X11_job w h).2⟩
set_option maxHeartbeats 4000000 in
set_option maxRecDepth 100000 in
theorem c_L_job (l : Launch) (hlf : l.stackTraces = false) (dC : Nat → ClassId) (dI : Nat → Nat → Nat) (g : Nat → ClassId) (a : Nat → Nat) (x : Int32) (ou : Nat) (f0 : Nat → Int64) (sz : Nat) : Met l yL_job wsL_job2 ({ frames := 8, cells := 8, slots := 48, locals := 126 }) (va_Pc [.ref (a 0), .int x, .ref ou] (PG (dC, dI) g (offW a g ++ [(ou, .inl (g 2, 1, .inr (.inl f0)))]) sz)) (va_Qi (fun (r : Int32) (fz : Nat → Int64) => r = (cd (rngb x 0 7) false true) ∧ ((cd (rngb x 0 7) false true) = 0 → fz 0 = 0)) (fun (fz : Nat → Int64) t => va_P (dC, dI) vwCl [(ou, .inl (g 2, 1, .inr (.inl fz)))] t.heap) (va_A (offW a g ++ [(ou, .inl (g 2, 1, .inr (.inl f0)))]) sz)) 8 48 (va_A (offW a g ++ [(ou, .inl (g 2, 1, .inr (.inl f0)))]) sz) := by
  refine mt_ofWH (cc := cL_job) (maxL := 4) (ret := (some .int)) (by decide) rfl ?_
  intro p e s m args below meth c s₁ B hml hv
  obtain ⟨rfl, hsz, hP, hK, hD0, hG⟩ := hv
  have hx := B.exec
  have hb := B.bytes
  have hr := B.returns
  have hts := atoms_spec (ws := wsL_job2) B.pre
  have hown : s.vm.findClass RL = some m.cls := findClass_of_methodNamed B.named
  have hlocks := B.notSynchronized
  have hTab := vx_table (x := yL_job) B (hts (Cond.codeWith yL_job cL_job 4 (some .int) [(0, 9, 12, 15), (0, 9, 15, 17)]) (List.mem_cons_self))
  subst hsz
  have hD := hD0.self (sz := s.heap.size)
  generalize hAe : va_A (offW a g ++ [(ou, .inl (g 2, 1, .inr (.inl f0)))]) s.heap.size = A at hD hG ⊢
  have hA : ∀ q : Nat, s.heap.size ≤ q → A q := fun q h => by rw [← hAe]; exact Or.inr h
  have hS : va_S A s.heap s.heap [] := va_S.rf
  have hl := lv_entry ([.ref (a 0), .int x, .ref ou]) (n := 4) (Nat.le_of_ble_eq_true rfl)
  rw [lg_entry_eq]
  generalize (lg_sl ([.ref (a 0), .int x, .ref ou]) ++ List.replicate (4 - (lg_sl ([.ref (a 0), .int x, .ref ou])).length) Slot.unset).toArray = ls at hl ⊢
  have hl : lv_has ls 4 [(0, .ref (a 0)), (1, .int x), (2, .ref ou)] := hl
  have hxl0 := hts (Cond.classLink RL 15 "java/lang/IllegalArgumentException") (by decide +kernel)
  have hxl1 := hts (Cond.classLink RL 17 "java/lang/IllegalStateException") (by decide +kernel)
  refine lv_aload_n hx hb dL_job_0 rfl (lv_at hl 2 rfl) ?_
  refine lv_iconst (v := 0) hx hb dL_job_1 (by decide) ?_
  refine lv_aload_n hx hb dL_job_2 rfl (lv_at hl 0 rfl) ?_
  refine lv_iload_n hx hb dL_job_3 rfl (lv_at hl 1 rfl) ?_
  have hDc := D_l hD
  have hPc := P_l hP
  have hFc : ∀ q, va_A (offW a g) s.heap.size q → A q := A_all hDc hA hS.1
  refine vx_calli (vx_runV (As := [.int x]) (rest := [.int 0, .ref ou]) ⟨hx, hb, hml, hown, hts⟩ (c_X11_job l hlf dC dI g a x s.heap.size) (cwV 1 hts gL2_job rfl rfl rfl (by decide +kernel) ⟨Nat.le_of_ble_eq_true rfl, Nat.le_of_ble_eq_true rfl⟩) ⟨PG_blind, va_recv hK hP (ci := 13) (q0 := 0) rfl rfl, PG_call hK hG hS hPc hDc hFc⟩ rfl rfl hl.1 rfl (lv_room (Nat.le_of_ble_eq_true rfl)) dL_job_4 ⟨Nat.le_of_ble_eq_true rfl, Nat.le_of_ble_eq_true rfl⟩) hS (fun q _ h => hFc q h) hFc (fun q _ h => hFc q h) (fun E ce q9 u t H1 locs1 ht9 hvm hp9 hB9 hz hk hS9 hce hcv hcl => ?_) (fun r_1 u_1 t_1 H_1 L_1 ht_1 hvm_1 hw_1 hB_1 hz_1 hk_1 hS => ?_)
  · have hP := rest_kept hP hD hk
    have hD := D_r hD
    have h9 : (E = "java/lang/IllegalArgumentException" ∧ (rngb x 0 7) = false) ∨ (E = "java/lang/IllegalStateException" ∧ rngb x 0 7 = true ∧ false = false) := hB9
    rcases h9 with ⟨rfl, hc0⟩ | ⟨rfl, hc0, hc1⟩
    · refine vx_catch (own := RL) (name := "java/lang/IllegalArgumentException") (E := "java/lang/IllegalArgumentException") hown [] ⟨0, 9, 12, 15⟩ [⟨0, 9, 15, 17⟩] (by rw [hTab]; rfl) (fun z hz => absurd hz List.not_mem_nil) (by decide) (by decide) hxl0 (xc_1 hG) hce hcv hcl ?_
      have hS := hS9
      have ht_1 := ht9
      refine lv_astore_n (lv' := [(3, .ref q9), (0, .ref (a 0)), (1, .int x), (2, .ref ou)]) hx hb dL_job_12 rfl hl (by decide) rfl (fun ls hl => ?_)
      refine lv_iconst (v := 1) hx hb dL_job_13 (by decide) ?_
      exact W.iret (v := 1) hx hb hr (fun t ht hW => ⟨⟨1, f0, rfl, ⟨by simp [cd, hc0], fun h => absurd h (by simp [cd, hc0])⟩, P_at ht hP⟩, hS.F ht⟩) hS.2.2 dL_job_14
    · refine vx_catch (own := RL) (name := "java/lang/IllegalStateException") (E := "java/lang/IllegalStateException") hown [⟨0, 9, 12, 15⟩] ⟨0, 9, 15, 17⟩ [] (by rw [hTab]; rfl) (fun z hz => (List.mem_cons.mp hz).elim (fun q => by subst q; exact Or.inr ⟨by decide, _, hxl0, nc_2 hG⟩) (fun hz => absurd hz List.not_mem_nil)) (by decide) (by decide) hxl1 (xc_2 hG) hce hcv hcl ?_
      have hS := hS9
      have ht_1 := ht9
      refine lv_astore_n (lv' := [(3, .ref q9), (0, .ref (a 0)), (1, .int x), (2, .ref ou)]) hx hb dL_job_15 rfl hl (by decide) rfl (fun ls hl => ?_)
      refine lv_iconst (v := 2) hx hb dL_job_16 (by decide) ?_
      exact W.iret (v := 2) hx hb hr (fun t ht hW => ⟨⟨2, f0, rfl, ⟨by simp [cd, hc0, hc1], fun h => absurd h (by simp [cd, hc0, hc1])⟩, P_at ht hP⟩, hS.F ht⟩) hS.2.2 dL_job_17
  · exact hw_1.elim
set_option maxHeartbeats 4000000 in
set_option maxRecDepth 100000 in
theorem c_L_sort (l : Launch) (hlf : l.stackTraces = false) (dC : Nat → ClassId) (dI : Nat → Nat → Nat) (g : Nat → ClassId) (a : Nat → Nat) (x : Int32) (y : Int32) (ou : Nat) (f0 : Nat → Int64) (sz : Nat) : Met l yL_sort wsL_sort ({ frames := 8, cells := 8, slots := 48, locals := 132 }) (va_Pc [.ref (a 0), .int x, .int y, .ref ou] (PG (dC, dI) g (offW a g ++ [(ou, .inl (g 2, 1, .inr (.inl f0)))]) sz)) (va_Qi (fun (r : Int32) (fz : Nat → Int64) => r = (cd (TOKb x && TOKb y) true true) ∧ ((cd (TOKb x && TOKb y) true true) = 0 → fz 0 = (0 : Int32).toInt64)) (fun (fz : Nat → Int64) t => va_P (dC, dI) vwCl [(ou, .inl (g 2, 1, .inr (.inl fz)))] t.heap) (va_A (offW a g ++ [(ou, .inl (g 2, 1, .inr (.inl f0)))]) sz)) 8 48 (va_A (offW a g ++ [(ou, .inl (g 2, 1, .inr (.inl f0)))]) sz) := by
  refine mt_ofWH (cc := cL_sort) (maxL := 5) (ret := (some .int)) (by decide) rfl ?_
  intro p e s m args below meth c s₁ B hml hv
  obtain ⟨rfl, hsz, hP, hK, hD0, hG⟩ := hv
  have hx := B.exec
  have hb := B.bytes
  have hr := B.returns
  have hts := atoms_spec (ws := wsL_sort) B.pre
  have hown : s.vm.findClass RL = some m.cls := findClass_of_methodNamed B.named
  have hlocks := B.notSynchronized
  have hTab := vx_table (x := yL_sort) B (hts (Cond.codeWith yL_sort cL_sort 5 (some .int) [(0, 10, 13, 13)]) (List.mem_cons_self))
  subst hsz
  have hD := hD0.self (sz := s.heap.size)
  generalize hAe : va_A (offW a g ++ [(ou, .inl (g 2, 1, .inr (.inl f0)))]) s.heap.size = A at hD hG ⊢
  have hA : ∀ q : Nat, s.heap.size ≤ q → A q := fun q h => by rw [← hAe]; exact Or.inr h
  have hS : va_S A s.heap s.heap [] := va_S.rf
  have hl := lv_entry ([.ref (a 0), .int x, .int y, .ref ou]) (n := 5) (Nat.le_of_ble_eq_true rfl)
  rw [lg_entry_eq]
  generalize (lg_sl ([.ref (a 0), .int x, .int y, .ref ou]) ++ List.replicate (5 - (lg_sl ([.ref (a 0), .int x, .int y, .ref ou])).length) Slot.unset).toArray = ls at hl ⊢
  have hl : lv_has ls 5 [(0, .ref (a 0)), (1, .int x), (2, .int y), (3, .ref ou)] := hl
  have hxl0 := hts (Cond.classLink RL 13 "java/lang/IndexOutOfBoundsException") (by decide +kernel)
  refine lv_aload_n hx hb dL_sort_0 rfl (lv_at hl 3 rfl) ?_
  refine lv_iconst (v := 0) hx hb dL_sort_1 (by decide) ?_
  refine lv_aload_n hx hb dL_sort_2 rfl (lv_at hl 0 rfl) ?_
  refine lv_iload_n hx hb dL_sort_3 rfl (lv_at hl 1 rfl) ?_
  refine lv_iload_n hx hb dL_sort_4 rfl (lv_at hl 2 rfl) ?_
  have hDc := D_l hD
  have hPc := P_l hP
  have hFc : ∀ q, va_A (offW a g) s.heap.size q → A q := A_all hDc hA hS.1
  refine vx_calli (vx_runV (As := [.int x, .int y]) (rest := [.int 0, .ref ou]) ⟨hx, hb, hml, hown, hts⟩ (c_X11_sort l hlf dC dI g a x y s.heap.size) (cwV 2 hts gL_sort_X11_sort rfl rfl rfl (by decide +kernel) ⟨Nat.le_of_ble_eq_true rfl, Nat.le_of_ble_eq_true rfl⟩) ⟨PG_blind, va_recv hK hP (ci := 13) (q0 := 0) rfl rfl, PG_call hK hG hS hPc hDc hFc⟩ rfl rfl hl.1 rfl (lv_room (Nat.le_of_ble_eq_true rfl)) dL_sort_5 ⟨Nat.le_of_ble_eq_true rfl, Nat.le_of_ble_eq_true rfl⟩) hS (fun q _ h => hFc q h) hFc (fun q _ h => hFc q h) (fun E ce q9 u t H1 locs1 ht9 hvm hp9 hB9 hz hk hS9 hce hcv hcl => ?_) (fun r_1 u_1 t_1 H_1 L_1 ht_1 hvm_1 hw_1 hB_1 hz_1 hk_1 hS => ?_)
  · have hP := rest_kept hP hD hk
    have hD := D_r hD
    have h9 : E = "java/lang/IndexOutOfBoundsException" ∧ (TOKb x && TOKb y) = false := hB9
    rcases h9 with ⟨rfl, hc0⟩
    · refine vx_catch (own := RL) (name := "java/lang/IndexOutOfBoundsException") (E := "java/lang/IndexOutOfBoundsException") hown [] ⟨0, 10, 13, 13⟩ [] (by rw [hTab]; rfl) (fun z hz => absurd hz List.not_mem_nil) (by decide) (by decide) hxl0 (xc_0 hG) hce hcv hcl ?_
      have hS := hS9
      have ht_1 := ht9
      refine lv_astore (lv' := [(4, .ref q9), (0, .ref (a 0)), (1, .int x), (2, .int y), (3, .ref ou)]) hx hb dL_sort_13 hl (by decide) rfl (fun ls hl => ?_)
      refine lv_iconst (v := 1) hx hb dL_sort_15 (by decide) ?_
      exact W.iret (v := 1) hx hb hr (fun t ht hW => ⟨⟨1, f0, rfl, ⟨by simp [cd, hc0], fun h => absurd h (by simp [cd, hc0])⟩, P_at ht hP⟩, hS.F ht⟩) hS.2.2 dL_sort_16
  · have hP := rest_kept hP hD hk_1
    have hD := D_r hD
    obtain ⟨hc0, rfl⟩ := hw_1
    refine lv_i2l (v := (0 : Int32).toInt64) hx hb dL_sort_8 rfl ?_
    refine va_last hx hb hK hP hD hS 0 2 rfl rfl (by unfold vp_in; decide) dL_sort_9 (fun H_7 L_7 hP hD hS => ?_)
    have hP : va_P (dC, dI) vwCl [(ou, .inl (g 2, 1, .inr (.inl (vp_updL f0 (0 : Int32).toNatClampNeg ((0 : Int32).toInt64)))))] H_7 := hP
    refine lv_goto (tgt := 17) hx hb dL_sort_10 (by decide) ?_
    refine lv_iconst (v := 0) hx hb dL_sort_17 (by decide) ?_
    exact W.iret (v := 0) hx hb hr (fun t ht hW => ⟨⟨0, (vp_updL f0 (0 : Int32).toNatClampNeg ((0 : Int32).toInt64)), rfl, ⟨by simp [cd, hc0], fun _ => rfl⟩, P_at ht hP⟩, hS.F ht⟩) hS.2.2 dL_sort_18
noncomputable def wsL_combine2 : List Cond := .codeWith yL_combine cL_combine 7 (some .int) [(0, 14, 17, 13), (0, 14, 21, 15), (0, 14, 25, 17)] :: (wsL_combine ++ [.classLink RL 15 "java/lang/IllegalArgumentException"])
theorem gL2_combine : GoodIn wsL_combine2 (wsV RL 96 RX11 yX11_combine wsX11_combine) := fun w h => ⟨List.mem_cons_of_mem _ (List.mem_append_left _ (gL_combine_X11_combine w h).1), (gL_combine_X11_combine w h).2⟩
set_option maxHeartbeats 4000000 in
set_option maxRecDepth 100000 in
theorem c_L_combine (l : Launch) (hlf : l.stackTraces = false) (dC : Nat → ClassId) (dI : Nat → Nat → Nat) (g : Nat → ClassId) (a : Nat → Nat) (x : Int32) (y : Int32) (z : Int32) (k : Int32) (ou : Nat) (f0 : Nat → Int64) (sz : Nat) : Met l yL_combine wsL_combine2 ({ frames := 8, cells := 8, slots := 48, locals := 132 }) (va_Pc [.ref (a 0), .int x, .int y, .int z, .int k, .ref ou] (PG (dC, dI) g (offW a g ++ [(ou, .inl (g 2, 1, .inr (.inl f0)))]) sz)) (va_Qi (fun (r : Int32) (fz : Nat → Int64) => r = (cd (TOKb x && TOKb y && TOKb z) (rngb k 0 2) (TOKb x && TOKb y && TOKb z)) ∧ ((cd (TOKb x && TOKb y && TOKb z) (rngb k 0 2) (TOKb x && TOKb y && TOKb z)) = 0 → fz 0 = (0 : Int32).toInt64)) (fun (fz : Nat → Int64) t => va_P (dC, dI) vwCl [(ou, .inl (g 2, 1, .inr (.inl fz)))] t.heap) (va_A (offW a g ++ [(ou, .inl (g 2, 1, .inr (.inl f0)))]) sz)) 8 48 (va_A (offW a g ++ [(ou, .inl (g 2, 1, .inr (.inl f0)))]) sz) := by
  refine mt_ofWH (cc := cL_combine) (maxL := 7) (ret := (some .int)) (by decide) rfl ?_
  intro p e s m args below meth c s₁ B hml hv
  obtain ⟨rfl, hsz, hP, hK, hD0, hG⟩ := hv
  have hx := B.exec
  have hb := B.bytes
  have hr := B.returns
  have hts := atoms_spec (ws := wsL_combine2) B.pre
  have hown : s.vm.findClass RL = some m.cls := findClass_of_methodNamed B.named
  have hlocks := B.notSynchronized
  have hTab := vx_table (x := yL_combine) B (hts (Cond.codeWith yL_combine cL_combine 7 (some .int) [(0, 14, 17, 13), (0, 14, 21, 15), (0, 14, 25, 17)]) (List.mem_cons_self))
  subst hsz
  have hD := hD0.self (sz := s.heap.size)
  generalize hAe : va_A (offW a g ++ [(ou, .inl (g 2, 1, .inr (.inl f0)))]) s.heap.size = A at hD hG ⊢
  have hA : ∀ q : Nat, s.heap.size ≤ q → A q := fun q h => by rw [← hAe]; exact Or.inr h
  have hS : va_S A s.heap s.heap [] := va_S.rf
  have hl := lv_entry ([.ref (a 0), .int x, .int y, .int z, .int k, .ref ou]) (n := 7) (Nat.le_of_ble_eq_true rfl)
  rw [lg_entry_eq]
  generalize (lg_sl ([.ref (a 0), .int x, .int y, .int z, .int k, .ref ou]) ++ List.replicate (7 - (lg_sl ([.ref (a 0), .int x, .int y, .int z, .int k, .ref ou])).length) Slot.unset).toArray = ls at hl ⊢
  have hl : lv_has ls 7 [(0, .ref (a 0)), (1, .int x), (2, .int y), (3, .int z), (4, .int k), (5, .ref ou)] := hl
  have hxl0 := hts (Cond.classLink RL 13 "java/lang/IndexOutOfBoundsException") (by decide +kernel)
  have hxl1 := hts (Cond.classLink RL 15 "java/lang/IllegalArgumentException") (by decide +kernel)
  refine lv_aload hx hb dL_combine_0 (lv_at hl 5 rfl) ?_
  refine lv_iconst (v := 0) hx hb dL_combine_2 (by decide) ?_
  refine lv_aload_n hx hb dL_combine_3 rfl (lv_at hl 0 rfl) ?_
  refine lv_iload_n hx hb dL_combine_4 rfl (lv_at hl 1 rfl) ?_
  refine lv_iload_n hx hb dL_combine_5 rfl (lv_at hl 2 rfl) ?_
  refine lv_iload_n hx hb dL_combine_6 rfl (lv_at hl 3 rfl) ?_
  refine lv_iload hx hb dL_combine_7 (lv_at hl 4 rfl) ?_
  have hDc := D_l hD
  have hPc := P_l hP
  have hFc : ∀ q, va_A (offW a g) s.heap.size q → A q := A_all hDc hA hS.1
  refine vx_calli (vx_runV (As := [.int x, .int y, .int z, .int k]) (rest := [.int 0, .ref ou]) ⟨hx, hb, hml, hown, hts⟩ (c_X11_combine l hlf dC dI g a x y z k s.heap.size) (cwV 4 hts gL2_combine rfl rfl rfl (by decide +kernel) ⟨Nat.le_of_ble_eq_true rfl, Nat.le_of_ble_eq_true rfl⟩) ⟨PG_blind, va_recv hK hP (ci := 13) (q0 := 0) rfl rfl, PG_call hK hG hS hPc hDc hFc⟩ rfl rfl hl.1 rfl (lv_room (Nat.le_of_ble_eq_true rfl)) dL_combine_9 ⟨Nat.le_of_ble_eq_true rfl, Nat.le_of_ble_eq_true rfl⟩) hS (fun q _ h => hFc q h) hFc (fun q _ h => hFc q h) (fun E ce q9 u t H1 locs1 ht9 hvm hp9 hB9 hz hk hS9 hce hcv hcl => ?_) (fun r_1 u_1 t_1 H_1 L_1 ht_1 hvm_1 hw_1 hB_1 hz_1 hk_1 hS => ?_)
  · have hP := rest_kept hP hD hk
    have hD := D_r hD
    have h9 : (E = "java/lang/IndexOutOfBoundsException" ∧ (TOKb x && TOKb y && TOKb z) = false) ∨ (E = "java/lang/IllegalArgumentException" ∧ (TOKb x && TOKb y && TOKb z) = true ∧ (rngb k 0 2) = false) := hB9
    rcases h9 with ⟨rfl, hc0⟩ | ⟨rfl, hc0, hc1⟩
    · refine vx_catch (own := RL) (name := "java/lang/IndexOutOfBoundsException") (E := "java/lang/IndexOutOfBoundsException") hown [] ⟨0, 14, 17, 13⟩ [⟨0, 14, 21, 15⟩, ⟨0, 14, 25, 17⟩] (by rw [hTab]; rfl) (fun z hz => absurd hz List.not_mem_nil) (by decide) (by decide) hxl0 (xc_0 hG) hce hcv hcl ?_
      have hS := hS9
      have ht_1 := ht9
      refine lv_astore (lv' := [(6, .ref q9), (0, .ref (a 0)), (1, .int x), (2, .int y), (3, .int z), (4, .int k), (5, .ref ou)]) hx hb dL_combine_17 hl (by decide) rfl (fun ls hl => ?_)
      refine lv_iconst (v := 1) hx hb dL_combine_19 (by decide) ?_
      exact W.iret (v := 1) hx hb hr (fun t ht hW => ⟨⟨1, f0, rfl, ⟨by simp [cd, hc0], fun h => absurd h (by simp [cd, hc0])⟩, P_at ht hP⟩, hS.F ht⟩) hS.2.2 dL_combine_20
    · refine vx_catch (own := RL) (name := "java/lang/IllegalArgumentException") (E := "java/lang/IllegalArgumentException") hown [⟨0, 14, 17, 13⟩] ⟨0, 14, 21, 15⟩ [⟨0, 14, 25, 17⟩] (by rw [hTab]; rfl) (fun z hz => (List.mem_cons.mp hz).elim (fun q => by subst q; exact Or.inr ⟨by decide, _, hxl0, nc_0 hG⟩) (fun hz => absurd hz List.not_mem_nil)) (by decide) (by decide) hxl1 (xc_1 hG) hce hcv hcl ?_
      have hS := hS9
      have ht_1 := ht9
      refine lv_astore (lv' := [(6, .ref q9), (0, .ref (a 0)), (1, .int x), (2, .int y), (3, .int z), (4, .int k), (5, .ref ou)]) hx hb dL_combine_21 hl (by decide) rfl (fun ls hl => ?_)
      refine lv_iconst (v := 2) hx hb dL_combine_23 (by decide) ?_
      exact W.iret (v := 2) hx hb hr (fun t ht hW => ⟨⟨2, f0, rfl, ⟨by simp [cd, hc0, hc1], fun h => absurd h (by simp [cd, hc0, hc1])⟩, P_at ht hP⟩, hS.F ht⟩) hS.2.2 dL_combine_24
  · have hP := rest_kept hP hD hk_1
    have hD := D_r hD
    obtain ⟨hc0, hc1, rfl⟩ := hw_1
    refine lv_i2l (v := (0 : Int32).toInt64) hx hb dL_combine_12 rfl ?_
    refine va_last hx hb hK hP hD hS 0 2 rfl rfl (by unfold vp_in; decide) dL_combine_13 (fun H_7 L_7 hP hD hS => ?_)
    have hP : va_P (dC, dI) vwCl [(ou, .inl (g 2, 1, .inr (.inl (vp_updL f0 (0 : Int32).toNatClampNeg ((0 : Int32).toInt64)))))] H_7 := hP
    refine lv_goto (tgt := 29) hx hb dL_combine_14 (by decide) ?_
    refine lv_iconst (v := 0) hx hb dL_combine_29 (by decide) ?_
    exact W.iret (v := 0) hx hb hr (fun t ht hW => ⟨⟨0, (vp_updL f0 (0 : Int32).toNatClampNeg ((0 : Int32).toInt64)), rfl, ⟨by simp [cd, hc0, hc1], fun _ => rfl⟩, P_at ht hP⟩, hS.F ht⟩) hS.2.2 dL_combine_30
set_option maxHeartbeats 4000000 in
set_option maxRecDepth 100000 in
theorem c_L_thin (l : Launch) (hlf : l.stackTraces = false) (dC : Nat → ClassId) (dI : Nat → Nat → Nat) (g : Nat → ClassId) (a : Nat → Nat) (x : Int32) (z : Int32) (ou : Nat) (f0 : Nat → Int64) (sz : Nat) : Met l yL_thin wsL_thin ({ frames := 8, cells := 8, slots := 48, locals := 125 }) (va_Pc [.ref (a 0), .int x, .int z, .ref ou] (PG (dC, dI) g (offW a g ++ [(ou, .inl (g 2, 1, .inr (.inl f0)))]) sz)) (va_Qi (fun (r : Int32) (fz : Nat → Int64) => r = (cd (TOKb x) true true) ∧ ((cd (TOKb x) true true) = 0 → fz 0 = (0 : Int32).toInt64)) (fun (fz : Nat → Int64) t => va_P (dC, dI) vwCl [(ou, .inl (g 2, 1, .inr (.inl fz)))] t.heap) (va_A (offW a g ++ [(ou, .inl (g 2, 1, .inr (.inl f0)))]) sz)) 8 48 (va_A (offW a g ++ [(ou, .inl (g 2, 1, .inr (.inl f0)))]) sz) := by
  refine mt_ofWH (cc := cL_thin) (maxL := 5) (ret := (some .int)) (by decide) rfl ?_
  intro p e s m args below meth c s₁ B hml hv
  obtain ⟨rfl, hsz, hP, hK, hD0, hG⟩ := hv
  have hx := B.exec
  have hb := B.bytes
  have hr := B.returns
  have hts := atoms_spec (ws := wsL_thin) B.pre
  have hown : s.vm.findClass RL = some m.cls := findClass_of_methodNamed B.named
  have hlocks := B.notSynchronized
  have hTab := vx_table (x := yL_thin) B (hts (Cond.codeWith yL_thin cL_thin 5 (some .int) [(0, 10, 13, 13)]) (List.mem_cons_self))
  subst hsz
  have hD := hD0.self (sz := s.heap.size)
  generalize hAe : va_A (offW a g ++ [(ou, .inl (g 2, 1, .inr (.inl f0)))]) s.heap.size = A at hD hG ⊢
  have hA : ∀ q : Nat, s.heap.size ≤ q → A q := fun q h => by rw [← hAe]; exact Or.inr h
  have hS : va_S A s.heap s.heap [] := va_S.rf
  have hl := lv_entry ([.ref (a 0), .int x, .int z, .ref ou]) (n := 5) (Nat.le_of_ble_eq_true rfl)
  rw [lg_entry_eq]
  generalize (lg_sl ([.ref (a 0), .int x, .int z, .ref ou]) ++ List.replicate (5 - (lg_sl ([.ref (a 0), .int x, .int z, .ref ou])).length) Slot.unset).toArray = ls at hl ⊢
  have hl : lv_has ls 5 [(0, .ref (a 0)), (1, .int x), (2, .int z), (3, .ref ou)] := hl
  have hxl0 := hts (Cond.classLink RL 13 "java/lang/IndexOutOfBoundsException") (by decide +kernel)
  refine lv_aload_n hx hb dL_thin_0 rfl (lv_at hl 3 rfl) ?_
  refine lv_iconst (v := 0) hx hb dL_thin_1 (by decide) ?_
  refine lv_aload_n hx hb dL_thin_2 rfl (lv_at hl 0 rfl) ?_
  refine lv_iload_n hx hb dL_thin_3 rfl (lv_at hl 1 rfl) ?_
  refine lv_iload_n hx hb dL_thin_4 rfl (lv_at hl 2 rfl) ?_
  have hDc := D_l hD
  have hPc := P_l hP
  have hFc : ∀ q, va_A (offW a g) s.heap.size q → A q := A_all hDc hA hS.1
  refine vx_calli (vx_runV (As := [.int x, .int z]) (rest := [.int 0, .ref ou]) ⟨hx, hb, hml, hown, hts⟩ (c_X11_thin l hlf dC dI g a x z s.heap.size) (cwV 2 hts gL_thin_X11_thin rfl rfl rfl (by decide +kernel) ⟨Nat.le_of_ble_eq_true rfl, Nat.le_of_ble_eq_true rfl⟩) ⟨PG_blind, va_recv hK hP (ci := 13) (q0 := 0) rfl rfl, PG_call hK hG hS hPc hDc hFc⟩ rfl rfl hl.1 rfl (lv_room (Nat.le_of_ble_eq_true rfl)) dL_thin_5 ⟨Nat.le_of_ble_eq_true rfl, Nat.le_of_ble_eq_true rfl⟩) hS (fun q _ h => hFc q h) hFc (fun q _ h => hFc q h) (fun E ce q9 u t H1 locs1 ht9 hvm hp9 hB9 hz hk hS9 hce hcv hcl => ?_) (fun r_1 u_1 t_1 H_1 L_1 ht_1 hvm_1 hw_1 hB_1 hz_1 hk_1 hS => ?_)
  · have hP := rest_kept hP hD hk
    have hD := D_r hD
    have h9 : E = "java/lang/IndexOutOfBoundsException" ∧ (TOKb x) = false := hB9
    rcases h9 with ⟨rfl, hc0⟩
    · refine vx_catch (own := RL) (name := "java/lang/IndexOutOfBoundsException") (E := "java/lang/IndexOutOfBoundsException") hown [] ⟨0, 10, 13, 13⟩ [] (by rw [hTab]; rfl) (fun z hz => absurd hz List.not_mem_nil) (by decide) (by decide) hxl0 (xc_0 hG) hce hcv hcl ?_
      have hS := hS9
      have ht_1 := ht9
      refine lv_astore (lv' := [(4, .ref q9), (0, .ref (a 0)), (1, .int x), (2, .int z), (3, .ref ou)]) hx hb dL_thin_13 hl (by decide) rfl (fun ls hl => ?_)
      refine lv_iconst (v := 1) hx hb dL_thin_15 (by decide) ?_
      exact W.iret (v := 1) hx hb hr (fun t ht hW => ⟨⟨1, f0, rfl, ⟨by simp [cd, hc0], fun h => absurd h (by simp [cd, hc0])⟩, P_at ht hP⟩, hS.F ht⟩) hS.2.2 dL_thin_16
  · have hP := rest_kept hP hD hk_1
    have hD := D_r hD
    obtain ⟨hc0, rfl⟩ := hw_1
    refine lv_i2l (v := (0 : Int32).toInt64) hx hb dL_thin_8 rfl ?_
    refine va_last hx hb hK hP hD hS 0 2 rfl rfl (by unfold vp_in; decide) dL_thin_9 (fun H_7 L_7 hP hD hS => ?_)
    have hP : va_P (dC, dI) vwCl [(ou, .inl (g 2, 1, .inr (.inl (vp_updL f0 (0 : Int32).toNatClampNeg ((0 : Int32).toInt64)))))] H_7 := hP
    refine lv_goto (tgt := 17) hx hb dL_thin_10 (by decide) ?_
    refine lv_iconst (v := 0) hx hb dL_thin_17 (by decide) ?_
    exact W.iret (v := 0) hx hb hr (fun t ht hW => ⟨⟨0, (vp_updL f0 (0 : Int32).toNatClampNeg ((0 : Int32).toInt64)), rfl, ⟨by simp [cd, hc0], fun _ => rfl⟩, P_at ht hP⟩, hS.F ht⟩) hS.2.2 dL_thin_18
set_option maxHeartbeats 4000000 in
set_option maxRecDepth 100000 in
theorem c_L_find (l : Launch) (hlf : l.stackTraces = false) (dC : Nat → ClassId) (dI : Nat → Nat → Nat) (g : Nat → ClassId) (a : Nat → Nat) (x : Int32) (k : Int32) (ou : Nat) (f0 : Nat → Int64) (sz : Nat) : Met l yL_find wsL_find ({ frames := 9, cells := 8, slots := 48, locals := 149 }) (va_Pc [.ref (a 0), .int x, .int k, .ref ou] (PG (dC, dI) g (offW a g ++ [(ou, .inl (g 2, 1, .inr (.inl f0)))]) sz)) (va_Qi (fun (r : Int32) (fz : Nat → Int64) => r = (cd (TOKb x) true true) ∧ ((cd (TOKb x) true true) = 0 → fz 0 = (-1 : Int32).toInt64)) (fun (fz : Nat → Int64) t => va_P (dC, dI) vwCl [(ou, .inl (g 2, 1, .inr (.inl fz)))] t.heap) (va_A (offW a g ++ [(ou, .inl (g 2, 1, .inr (.inl f0)))]) sz)) 8 48 (va_A (offW a g ++ [(ou, .inl (g 2, 1, .inr (.inl f0)))]) sz) := by
  refine mt_ofWH (cc := cL_find) (maxL := 5) (ret := (some .int)) (by decide) rfl ?_
  intro p e s m args below meth c s₁ B hml hv
  obtain ⟨rfl, hsz, hP, hK, hD0, hG⟩ := hv
  have hx := B.exec
  have hb := B.bytes
  have hr := B.returns
  have hts := atoms_spec (ws := wsL_find) B.pre
  have hown : s.vm.findClass RL = some m.cls := findClass_of_methodNamed B.named
  have hlocks := B.notSynchronized
  have hTab := vx_table (x := yL_find) B (hts (Cond.codeWith yL_find cL_find 5 (some .int) [(0, 10, 13, 13), (0, 10, 17, 17)]) (List.mem_cons_self))
  subst hsz
  have hD := hD0.self (sz := s.heap.size)
  generalize hAe : va_A (offW a g ++ [(ou, .inl (g 2, 1, .inr (.inl f0)))]) s.heap.size = A at hD hG ⊢
  have hA : ∀ q : Nat, s.heap.size ≤ q → A q := fun q h => by rw [← hAe]; exact Or.inr h
  have hS : va_S A s.heap s.heap [] := va_S.rf
  have hl := lv_entry ([.ref (a 0), .int x, .int k, .ref ou]) (n := 5) (Nat.le_of_ble_eq_true rfl)
  rw [lg_entry_eq]
  generalize (lg_sl ([.ref (a 0), .int x, .int k, .ref ou]) ++ List.replicate (5 - (lg_sl ([.ref (a 0), .int x, .int k, .ref ou])).length) Slot.unset).toArray = ls at hl ⊢
  have hl : lv_has ls 5 [(0, .ref (a 0)), (1, .int x), (2, .int k), (3, .ref ou)] := hl
  have hxl0 := hts (Cond.classLink RL 13 "java/lang/IndexOutOfBoundsException") (by decide +kernel)
  refine lv_aload_n hx hb dL_find_0 rfl (lv_at hl 3 rfl) ?_
  refine lv_iconst (v := 0) hx hb dL_find_1 (by decide) ?_
  refine lv_aload_n hx hb dL_find_2 rfl (lv_at hl 0 rfl) ?_
  refine lv_iload_n hx hb dL_find_3 rfl (lv_at hl 1 rfl) ?_
  refine lv_iload_n hx hb dL_find_4 rfl (lv_at hl 2 rfl) ?_
  have hDc := D_l hD
  have hPc := P_l hP
  have hFc : ∀ q, va_A (offW a g) s.heap.size q → A q := A_all hDc hA hS.1
  refine vx_calli (vx_runV (As := [.int x, .int k]) (rest := [.int 0, .ref ou]) ⟨hx, hb, hml, hown, hts⟩ (c_X11_find l hlf dC dI g a x k s.heap.size) (cwV 2 hts gL_find_X11_find rfl rfl rfl (by decide +kernel) ⟨Nat.le_of_ble_eq_true rfl, Nat.le_of_ble_eq_true rfl⟩) ⟨PG_blind, va_recv hK hP (ci := 13) (q0 := 0) rfl rfl, PG_call hK hG hS hPc hDc hFc⟩ rfl rfl hl.1 rfl (lv_room (Nat.le_of_ble_eq_true rfl)) dL_find_5 ⟨Nat.le_of_ble_eq_true rfl, Nat.le_of_ble_eq_true rfl⟩) hS (fun q _ h => hFc q h) hFc (fun q _ h => hFc q h) (fun E ce q9 u t H1 locs1 ht9 hvm hp9 hB9 hz hk hS9 hce hcv hcl => ?_) (fun r_1 u_1 t_1 H_1 L_1 ht_1 hvm_1 hw_1 hB_1 hz_1 hk_1 hS => ?_)
  · have hP := rest_kept hP hD hk
    have hD := D_r hD
    have h9 : E = "java/lang/IndexOutOfBoundsException" ∧ (TOKb x) = false := hB9
    rcases h9 with ⟨rfl, hc0⟩
    · refine vx_catch (own := RL) (name := "java/lang/IndexOutOfBoundsException") (E := "java/lang/IndexOutOfBoundsException") hown [] ⟨0, 10, 13, 13⟩ [⟨0, 10, 17, 17⟩] (by rw [hTab]; rfl) (fun z hz => absurd hz List.not_mem_nil) (by decide) (by decide) hxl0 (xc_0 hG) hce hcv hcl ?_
      have hS := hS9
      have ht_1 := ht9
      refine lv_astore (lv' := [(4, .ref q9), (0, .ref (a 0)), (1, .int x), (2, .int k), (3, .ref ou)]) hx hb dL_find_13 hl (by decide) rfl (fun ls hl => ?_)
      refine lv_iconst (v := 1) hx hb dL_find_15 (by decide) ?_
      exact W.iret (v := 1) hx hb hr (fun t ht hW => ⟨⟨1, f0, rfl, ⟨by simp [cd, hc0], fun h => absurd h (by simp [cd, hc0])⟩, P_at ht hP⟩, hS.F ht⟩) hS.2.2 dL_find_16
  · have hP := rest_kept hP hD hk_1
    have hD := D_r hD
    obtain ⟨hc0, rfl⟩ := hw_1
    refine lv_i2l (v := (-1 : Int32).toInt64) hx hb dL_find_8 rfl ?_
    refine va_last hx hb hK hP hD hS 0 2 rfl rfl (by unfold vp_in; decide) dL_find_9 (fun H_7 L_7 hP hD hS => ?_)
    have hP : va_P (dC, dI) vwCl [(ou, .inl (g 2, 1, .inr (.inl (vp_updL f0 (0 : Int32).toNatClampNeg ((-1 : Int32).toInt64)))))] H_7 := hP
    refine lv_goto (tgt := 21) hx hb dL_find_10 (by decide) ?_
    refine lv_iconst (v := 0) hx hb dL_find_21 (by decide) ?_
    exact W.iret (v := 0) hx hb hr (fun t ht hW => ⟨⟨0, (vp_updL f0 (0 : Int32).toNatClampNeg ((-1 : Int32).toInt64)), rfl, ⟨by simp [cd, hc0], fun _ => rfl⟩, P_at ht hP⟩, hS.F ht⟩) hS.2.2 dL_find_22
noncomputable def wsL_floor2 : List Cond := .codeWith yL_floor cL_floor 5 (some .int) [(0, 10, 13, 13), (0, 10, 17, 17), (0, 10, 21, 109)] :: (wsL_floor ++ [.classLink RL 109 "java/util/NoSuchElementException", .classLink RL 17 "java/lang/IllegalStateException"])
theorem gL2_floor : GoodIn wsL_floor2 (wsV RL 106 RX11 yX11_floor wsX11_floor) := fun w h => ⟨List.mem_cons_of_mem _ (List.mem_append_left _ (gL_floor_X11_floor w h).1), (gL_floor_X11_floor w h).2⟩
set_option maxHeartbeats 4000000 in
set_option maxRecDepth 100000 in
theorem c_L_floor (l : Launch) (hlf : l.stackTraces = false) (dC : Nat → ClassId) (dI : Nat → Nat → Nat) (g : Nat → ClassId) (a : Nat → Nat) (x : Int32) (k : Int32) (ou : Nat) (f0 : Nat → Int64) (sz : Nat) : Met l yL_floor wsL_floor2 ({ frames := 9, cells := 8, slots := 48, locals := 149 }) (va_Pc [.ref (a 0), .int x, .int k, .ref ou] (PG (dC, dI) g (offW a g ++ [(ou, .inl (g 2, 1, .inr (.inl f0)))]) sz)) (va_Qi (fun (r : Int32) (fz : Nat → Int64) => r = (cd (TOKb x) true false) ∧ ((cd (TOKb x) true false) = 0 → fz 0 = 0)) (fun (fz : Nat → Int64) t => va_P (dC, dI) vwCl [(ou, .inl (g 2, 1, .inr (.inl fz)))] t.heap) (va_A (offW a g ++ [(ou, .inl (g 2, 1, .inr (.inl f0)))]) sz)) 8 48 (va_A (offW a g ++ [(ou, .inl (g 2, 1, .inr (.inl f0)))]) sz) := by
  refine mt_ofWH (cc := cL_floor) (maxL := 5) (ret := (some .int)) (by decide) rfl ?_
  intro p e s m args below meth c s₁ B hml hv
  obtain ⟨rfl, hsz, hP, hK, hD0, hG⟩ := hv
  have hx := B.exec
  have hb := B.bytes
  have hr := B.returns
  have hts := atoms_spec (ws := wsL_floor2) B.pre
  have hown : s.vm.findClass RL = some m.cls := findClass_of_methodNamed B.named
  have hlocks := B.notSynchronized
  have hTab := vx_table (x := yL_floor) B (hts (Cond.codeWith yL_floor cL_floor 5 (some .int) [(0, 10, 13, 13), (0, 10, 17, 17), (0, 10, 21, 109)]) (List.mem_cons_self))
  subst hsz
  have hD := hD0.self (sz := s.heap.size)
  generalize hAe : va_A (offW a g ++ [(ou, .inl (g 2, 1, .inr (.inl f0)))]) s.heap.size = A at hD hG ⊢
  have hA : ∀ q : Nat, s.heap.size ≤ q → A q := fun q h => by rw [← hAe]; exact Or.inr h
  have hS : va_S A s.heap s.heap [] := va_S.rf
  have hl := lv_entry ([.ref (a 0), .int x, .int k, .ref ou]) (n := 5) (Nat.le_of_ble_eq_true rfl)
  rw [lg_entry_eq]
  generalize (lg_sl ([.ref (a 0), .int x, .int k, .ref ou]) ++ List.replicate (5 - (lg_sl ([.ref (a 0), .int x, .int k, .ref ou])).length) Slot.unset).toArray = ls at hl ⊢
  have hl : lv_has ls 5 [(0, .ref (a 0)), (1, .int x), (2, .int k), (3, .ref ou)] := hl
  have hxl0 := hts (Cond.classLink RL 13 "java/lang/IndexOutOfBoundsException") (by decide +kernel)
  have hxl2 := hts (Cond.classLink RL 109 "java/util/NoSuchElementException") (by decide +kernel)
  have hxl1 := hts (Cond.classLink RL 17 "java/lang/IllegalStateException") (by decide +kernel)
  refine lv_aload_n hx hb dL_floor_0 rfl (lv_at hl 3 rfl) ?_
  refine lv_iconst (v := 0) hx hb dL_floor_1 (by decide) ?_
  refine lv_aload_n hx hb dL_floor_2 rfl (lv_at hl 0 rfl) ?_
  refine lv_iload_n hx hb dL_floor_3 rfl (lv_at hl 1 rfl) ?_
  refine lv_iload_n hx hb dL_floor_4 rfl (lv_at hl 2 rfl) ?_
  have hDc := D_l hD
  have hPc := P_l hP
  have hFc : ∀ q, va_A (offW a g) s.heap.size q → A q := A_all hDc hA hS.1
  refine vx_calli (vx_runV (As := [.int x, .int k]) (rest := [.int 0, .ref ou]) ⟨hx, hb, hml, hown, hts⟩ (c_X11_floor l hlf dC dI g a x k s.heap.size) (cwV 2 hts gL2_floor rfl rfl rfl (by decide +kernel) ⟨Nat.le_of_ble_eq_true rfl, Nat.le_of_ble_eq_true rfl⟩) ⟨PG_blind, va_recv hK hP (ci := 13) (q0 := 0) rfl rfl, PG_call hK hG hS hPc hDc hFc⟩ rfl rfl hl.1 rfl (lv_room (Nat.le_of_ble_eq_true rfl)) dL_floor_5 ⟨Nat.le_of_ble_eq_true rfl, Nat.le_of_ble_eq_true rfl⟩) hS (fun q _ h => hFc q h) hFc (fun q _ h => hFc q h) (fun E ce q9 u t H1 locs1 ht9 hvm hp9 hB9 hz hk hS9 hce hcv hcl => ?_) (fun r_1 u_1 t_1 H_1 L_1 ht_1 hvm_1 hw_1 hB_1 hz_1 hk_1 hS => ?_)
  · have hP := rest_kept hP hD hk
    have hD := D_r hD
    have h9 : (E = "java/lang/IndexOutOfBoundsException" ∧ (TOKb x) = false) ∨ (E = "java/util/NoSuchElementException" ∧ TOKb x = true ∧ false = false) := hB9
    rcases h9 with ⟨rfl, hc0⟩ | ⟨rfl, hc0, hc1⟩
    · refine vx_catch (own := RL) (name := "java/lang/IndexOutOfBoundsException") (E := "java/lang/IndexOutOfBoundsException") hown [] ⟨0, 10, 13, 13⟩ [⟨0, 10, 17, 17⟩, ⟨0, 10, 21, 109⟩] (by rw [hTab]; rfl) (fun z hz => absurd hz List.not_mem_nil) (by decide) (by decide) hxl0 (xc_0 hG) hce hcv hcl ?_
      have hS := hS9
      have ht_1 := ht9
      refine lv_astore (lv' := [(4, .ref q9), (0, .ref (a 0)), (1, .int x), (2, .int k), (3, .ref ou)]) hx hb dL_floor_13 hl (by decide) rfl (fun ls hl => ?_)
      refine lv_iconst (v := 1) hx hb dL_floor_15 (by decide) ?_
      exact W.iret (v := 1) hx hb hr (fun t ht hW => ⟨⟨1, f0, rfl, ⟨by simp [cd, hc0], fun h => absurd h (by simp [cd, hc0])⟩, P_at ht hP⟩, hS.F ht⟩) hS.2.2 dL_floor_16
    · refine vx_catch (own := RL) (name := "java/util/NoSuchElementException") (E := "java/util/NoSuchElementException") hown [⟨0, 10, 13, 13⟩, ⟨0, 10, 17, 17⟩] ⟨0, 10, 21, 109⟩ [] (by rw [hTab]; rfl) (fun z hz => (List.mem_cons.mp hz).elim (fun q => by subst q; exact Or.inr ⟨by decide, _, hxl0, nc_3 hG⟩) (fun hz => (List.mem_cons.mp hz).elim (fun q => by subst q; exact Or.inr ⟨by decide, _, hxl1, nc_4 hG⟩) (fun hz => absurd hz List.not_mem_nil))) (by decide) (by decide) hxl2 (xc_3 hG) hce hcv hcl ?_
      have hS := hS9
      have ht_1 := ht9
      refine lv_astore (lv' := [(4, .ref q9), (0, .ref (a 0)), (1, .int x), (2, .int k), (3, .ref ou)]) hx hb dL_floor_21 hl (by decide) rfl (fun ls hl => ?_)
      refine lv_iconst (v := 3) hx hb dL_floor_23 (by decide) ?_
      exact W.iret (v := 3) hx hb hr (fun t ht hW => ⟨⟨3, f0, rfl, ⟨by simp [cd, hc0, hc1], fun h => absurd h (by simp [cd, hc0, hc1])⟩, P_at ht hP⟩, hS.F ht⟩) hS.2.2 dL_floor_24
  · exact hw_1.elim
noncomputable def wsL_ceiling2 : List Cond := .codeWith yL_ceiling cL_ceiling 5 (some .int) [(0, 10, 13, 13), (0, 10, 17, 17), (0, 10, 21, 109)] :: (wsL_ceiling ++ [.classLink RL 109 "java/util/NoSuchElementException", .classLink RL 17 "java/lang/IllegalStateException"])
theorem gL2_ceiling : GoodIn wsL_ceiling2 (wsV RL 111 RX11 yX11_ceiling wsX11_ceiling) := fun w h => ⟨List.mem_cons_of_mem _ (List.mem_append_left _ (gL_ceiling_X11_ceiling w h).1), (gL_ceiling_X11_ceiling w h).2⟩
set_option maxHeartbeats 4000000 in
set_option maxRecDepth 100000 in
theorem c_L_ceiling (l : Launch) (hlf : l.stackTraces = false) (dC : Nat → ClassId) (dI : Nat → Nat → Nat) (g : Nat → ClassId) (a : Nat → Nat) (x : Int32) (k : Int32) (ou : Nat) (f0 : Nat → Int64) (sz : Nat) : Met l yL_ceiling wsL_ceiling2 ({ frames := 9, cells := 8, slots := 48, locals := 149 }) (va_Pc [.ref (a 0), .int x, .int k, .ref ou] (PG (dC, dI) g (offW a g ++ [(ou, .inl (g 2, 1, .inr (.inl f0)))]) sz)) (va_Qi (fun (r : Int32) (fz : Nat → Int64) => r = (cd (TOKb x) true false) ∧ ((cd (TOKb x) true false) = 0 → fz 0 = 0)) (fun (fz : Nat → Int64) t => va_P (dC, dI) vwCl [(ou, .inl (g 2, 1, .inr (.inl fz)))] t.heap) (va_A (offW a g ++ [(ou, .inl (g 2, 1, .inr (.inl f0)))]) sz)) 8 48 (va_A (offW a g ++ [(ou, .inl (g 2, 1, .inr (.inl f0)))]) sz) := by
  refine mt_ofWH (cc := cL_ceiling) (maxL := 5) (ret := (some .int)) (by decide) rfl ?_
  intro p e s m args below meth c s₁ B hml hv
  obtain ⟨rfl, hsz, hP, hK, hD0, hG⟩ := hv
  have hx := B.exec
  have hb := B.bytes
  have hr := B.returns
  have hts := atoms_spec (ws := wsL_ceiling2) B.pre
  have hown : s.vm.findClass RL = some m.cls := findClass_of_methodNamed B.named
  have hlocks := B.notSynchronized
  have hTab := vx_table (x := yL_ceiling) B (hts (Cond.codeWith yL_ceiling cL_ceiling 5 (some .int) [(0, 10, 13, 13), (0, 10, 17, 17), (0, 10, 21, 109)]) (List.mem_cons_self))
  subst hsz
  have hD := hD0.self (sz := s.heap.size)
  generalize hAe : va_A (offW a g ++ [(ou, .inl (g 2, 1, .inr (.inl f0)))]) s.heap.size = A at hD hG ⊢
  have hA : ∀ q : Nat, s.heap.size ≤ q → A q := fun q h => by rw [← hAe]; exact Or.inr h
  have hS : va_S A s.heap s.heap [] := va_S.rf
  have hl := lv_entry ([.ref (a 0), .int x, .int k, .ref ou]) (n := 5) (Nat.le_of_ble_eq_true rfl)
  rw [lg_entry_eq]
  generalize (lg_sl ([.ref (a 0), .int x, .int k, .ref ou]) ++ List.replicate (5 - (lg_sl ([.ref (a 0), .int x, .int k, .ref ou])).length) Slot.unset).toArray = ls at hl ⊢
  have hl : lv_has ls 5 [(0, .ref (a 0)), (1, .int x), (2, .int k), (3, .ref ou)] := hl
  have hxl0 := hts (Cond.classLink RL 13 "java/lang/IndexOutOfBoundsException") (by decide +kernel)
  have hxl2 := hts (Cond.classLink RL 109 "java/util/NoSuchElementException") (by decide +kernel)
  have hxl1 := hts (Cond.classLink RL 17 "java/lang/IllegalStateException") (by decide +kernel)
  refine lv_aload_n hx hb dL_ceiling_0 rfl (lv_at hl 3 rfl) ?_
  refine lv_iconst (v := 0) hx hb dL_ceiling_1 (by decide) ?_
  refine lv_aload_n hx hb dL_ceiling_2 rfl (lv_at hl 0 rfl) ?_
  refine lv_iload_n hx hb dL_ceiling_3 rfl (lv_at hl 1 rfl) ?_
  refine lv_iload_n hx hb dL_ceiling_4 rfl (lv_at hl 2 rfl) ?_
  have hDc := D_l hD
  have hPc := P_l hP
  have hFc : ∀ q, va_A (offW a g) s.heap.size q → A q := A_all hDc hA hS.1
  refine vx_calli (vx_runV (As := [.int x, .int k]) (rest := [.int 0, .ref ou]) ⟨hx, hb, hml, hown, hts⟩ (c_X11_ceiling l hlf dC dI g a x k s.heap.size) (cwV 2 hts gL2_ceiling rfl rfl rfl (by decide +kernel) ⟨Nat.le_of_ble_eq_true rfl, Nat.le_of_ble_eq_true rfl⟩) ⟨PG_blind, va_recv hK hP (ci := 13) (q0 := 0) rfl rfl, PG_call hK hG hS hPc hDc hFc⟩ rfl rfl hl.1 rfl (lv_room (Nat.le_of_ble_eq_true rfl)) dL_ceiling_5 ⟨Nat.le_of_ble_eq_true rfl, Nat.le_of_ble_eq_true rfl⟩) hS (fun q _ h => hFc q h) hFc (fun q _ h => hFc q h) (fun E ce q9 u t H1 locs1 ht9 hvm hp9 hB9 hz hk hS9 hce hcv hcl => ?_) (fun r_1 u_1 t_1 H_1 L_1 ht_1 hvm_1 hw_1 hB_1 hz_1 hk_1 hS => ?_)
  · have hP := rest_kept hP hD hk
    have hD := D_r hD
    have h9 : (E = "java/lang/IndexOutOfBoundsException" ∧ (TOKb x) = false) ∨ (E = "java/util/NoSuchElementException" ∧ TOKb x = true ∧ false = false) := hB9
    rcases h9 with ⟨rfl, hc0⟩ | ⟨rfl, hc0, hc1⟩
    · refine vx_catch (own := RL) (name := "java/lang/IndexOutOfBoundsException") (E := "java/lang/IndexOutOfBoundsException") hown [] ⟨0, 10, 13, 13⟩ [⟨0, 10, 17, 17⟩, ⟨0, 10, 21, 109⟩] (by rw [hTab]; rfl) (fun z hz => absurd hz List.not_mem_nil) (by decide) (by decide) hxl0 (xc_0 hG) hce hcv hcl ?_
      have hS := hS9
      have ht_1 := ht9
      refine lv_astore (lv' := [(4, .ref q9), (0, .ref (a 0)), (1, .int x), (2, .int k), (3, .ref ou)]) hx hb dL_ceiling_13 hl (by decide) rfl (fun ls hl => ?_)
      refine lv_iconst (v := 1) hx hb dL_ceiling_15 (by decide) ?_
      exact W.iret (v := 1) hx hb hr (fun t ht hW => ⟨⟨1, f0, rfl, ⟨by simp [cd, hc0], fun h => absurd h (by simp [cd, hc0])⟩, P_at ht hP⟩, hS.F ht⟩) hS.2.2 dL_ceiling_16
    · refine vx_catch (own := RL) (name := "java/util/NoSuchElementException") (E := "java/util/NoSuchElementException") hown [⟨0, 10, 13, 13⟩, ⟨0, 10, 17, 17⟩] ⟨0, 10, 21, 109⟩ [] (by rw [hTab]; rfl) (fun z hz => (List.mem_cons.mp hz).elim (fun q => by subst q; exact Or.inr ⟨by decide, _, hxl0, nc_3 hG⟩) (fun hz => (List.mem_cons.mp hz).elim (fun q => by subst q; exact Or.inr ⟨by decide, _, hxl1, nc_4 hG⟩) (fun hz => absurd hz List.not_mem_nil))) (by decide) (by decide) hxl2 (xc_3 hG) hce hcv hcl ?_
      have hS := hS9
      have ht_1 := ht9
      refine lv_astore (lv' := [(4, .ref q9), (0, .ref (a 0)), (1, .int x), (2, .int k), (3, .ref ou)]) hx hb dL_ceiling_21 hl (by decide) rfl (fun ls hl => ?_)
      refine lv_iconst (v := 3) hx hb dL_ceiling_23 (by decide) ?_
      exact W.iret (v := 3) hx hb hr (fun t ht hW => ⟨⟨3, f0, rfl, ⟨by simp [cd, hc0, hc1], fun h => absurd h (by simp [cd, hc0, hc1])⟩, P_at ht hP⟩, hS.F ht⟩) hS.2.2 dL_ceiling_24
  · exact hw_1.elim
set_option maxHeartbeats 4000000 in
set_option maxRecDepth 100000 in
theorem c_L_between (l : Launch) (hlf : l.stackTraces = false) (dC : Nat → ClassId) (dI : Nat → Nat → Nat) (g : Nat → ClassId) (a : Nat → Nat) (x : Int32) (k : Int32) (k2 : Int32) (ou : Nat) (f0 : Nat → Int64) (sz : Nat) : Met l yL_between wsL_between ({ frames := 9, cells := 8, slots := 48, locals := 149 }) (va_Pc [.ref (a 0), .int x, .int k, .int k2, .ref ou] (PG (dC, dI) g (offW a g ++ [(ou, .inl (g 2, 1, .inr (.inl f0)))]) sz)) (va_Qi (fun (r : Int32) (fz : Nat → Int64) => r = (cd (TOKb x) true true) ∧ ((cd (TOKb x) true true) = 0 → fz 0 = (0 : Int32).toInt64)) (fun (fz : Nat → Int64) t => va_P (dC, dI) vwCl [(ou, .inl (g 2, 1, .inr (.inl fz)))] t.heap) (va_A (offW a g ++ [(ou, .inl (g 2, 1, .inr (.inl f0)))]) sz)) 8 48 (va_A (offW a g ++ [(ou, .inl (g 2, 1, .inr (.inl f0)))]) sz) := by
  refine mt_ofWH (cc := cL_between) (maxL := 6) (ret := (some .int)) (by decide) rfl ?_
  intro p e s m args below meth c s₁ B hml hv
  obtain ⟨rfl, hsz, hP, hK, hD0, hG⟩ := hv
  have hx := B.exec
  have hb := B.bytes
  have hr := B.returns
  have hts := atoms_spec (ws := wsL_between) B.pre
  have hown : s.vm.findClass RL = some m.cls := findClass_of_methodNamed B.named
  have hlocks := B.notSynchronized
  have hTab := vx_table (x := yL_between) B (hts (Cond.codeWith yL_between cL_between 6 (some .int) [(0, 12, 15, 13), (0, 12, 19, 17)]) (List.mem_cons_self))
  subst hsz
  have hD := hD0.self (sz := s.heap.size)
  generalize hAe : va_A (offW a g ++ [(ou, .inl (g 2, 1, .inr (.inl f0)))]) s.heap.size = A at hD hG ⊢
  have hA : ∀ q : Nat, s.heap.size ≤ q → A q := fun q h => by rw [← hAe]; exact Or.inr h
  have hS : va_S A s.heap s.heap [] := va_S.rf
  have hl := lv_entry ([.ref (a 0), .int x, .int k, .int k2, .ref ou]) (n := 6) (Nat.le_of_ble_eq_true rfl)
  rw [lg_entry_eq]
  generalize (lg_sl ([.ref (a 0), .int x, .int k, .int k2, .ref ou]) ++ List.replicate (6 - (lg_sl ([.ref (a 0), .int x, .int k, .int k2, .ref ou])).length) Slot.unset).toArray = ls at hl ⊢
  have hl : lv_has ls 6 [(0, .ref (a 0)), (1, .int x), (2, .int k), (3, .int k2), (4, .ref ou)] := hl
  have hxl0 := hts (Cond.classLink RL 13 "java/lang/IndexOutOfBoundsException") (by decide +kernel)
  refine lv_aload hx hb dL_between_0 (lv_at hl 4 rfl) ?_
  refine lv_iconst (v := 0) hx hb dL_between_2 (by decide) ?_
  refine lv_aload_n hx hb dL_between_3 rfl (lv_at hl 0 rfl) ?_
  refine lv_iload_n hx hb dL_between_4 rfl (lv_at hl 1 rfl) ?_
  refine lv_iload_n hx hb dL_between_5 rfl (lv_at hl 2 rfl) ?_
  refine lv_iload_n hx hb dL_between_6 rfl (lv_at hl 3 rfl) ?_
  have hDc := D_l hD
  have hPc := P_l hP
  have hFc : ∀ q, va_A (offW a g) s.heap.size q → A q := A_all hDc hA hS.1
  refine vx_calli (vx_runV (As := [.int x, .int k, .int k2]) (rest := [.int 0, .ref ou]) ⟨hx, hb, hml, hown, hts⟩ (c_X11_between l hlf dC dI g a x k k2 s.heap.size) (cwV 3 hts gL_between_X11_between rfl rfl rfl (by decide +kernel) ⟨Nat.le_of_ble_eq_true rfl, Nat.le_of_ble_eq_true rfl⟩) ⟨PG_blind, va_recv hK hP (ci := 13) (q0 := 0) rfl rfl, PG_call hK hG hS hPc hDc hFc⟩ rfl rfl hl.1 rfl (lv_room (Nat.le_of_ble_eq_true rfl)) dL_between_7 ⟨Nat.le_of_ble_eq_true rfl, Nat.le_of_ble_eq_true rfl⟩) hS (fun q _ h => hFc q h) hFc (fun q _ h => hFc q h) (fun E ce q9 u t H1 locs1 ht9 hvm hp9 hB9 hz hk hS9 hce hcv hcl => ?_) (fun r_1 u_1 t_1 H_1 L_1 ht_1 hvm_1 hw_1 hB_1 hz_1 hk_1 hS => ?_)
  · have hP := rest_kept hP hD hk
    have hD := D_r hD
    have h9 : E = "java/lang/IndexOutOfBoundsException" ∧ (TOKb x) = false := hB9
    rcases h9 with ⟨rfl, hc0⟩
    · refine vx_catch (own := RL) (name := "java/lang/IndexOutOfBoundsException") (E := "java/lang/IndexOutOfBoundsException") hown [] ⟨0, 12, 15, 13⟩ [⟨0, 12, 19, 17⟩] (by rw [hTab]; rfl) (fun z hz => absurd hz List.not_mem_nil) (by decide) (by decide) hxl0 (xc_0 hG) hce hcv hcl ?_
      have hS := hS9
      have ht_1 := ht9
      refine lv_astore (lv' := [(5, .ref q9), (0, .ref (a 0)), (1, .int x), (2, .int k), (3, .int k2), (4, .ref ou)]) hx hb dL_between_15 hl (by decide) rfl (fun ls hl => ?_)
      refine lv_iconst (v := 1) hx hb dL_between_17 (by decide) ?_
      exact W.iret (v := 1) hx hb hr (fun t ht hW => ⟨⟨1, f0, rfl, ⟨by simp [cd, hc0], fun h => absurd h (by simp [cd, hc0])⟩, P_at ht hP⟩, hS.F ht⟩) hS.2.2 dL_between_18
  · have hP := rest_kept hP hD hk_1
    have hD := D_r hD
    obtain ⟨hc0, rfl⟩ := hw_1
    refine lv_i2l (v := (0 : Int32).toInt64) hx hb dL_between_10 rfl ?_
    refine va_last hx hb hK hP hD hS 0 2 rfl rfl (by unfold vp_in; decide) dL_between_11 (fun H_7 L_7 hP hD hS => ?_)
    have hP : va_P (dC, dI) vwCl [(ou, .inl (g 2, 1, .inr (.inl (vp_updL f0 (0 : Int32).toNatClampNeg ((0 : Int32).toInt64)))))] H_7 := hP
    refine lv_goto (tgt := 23) hx hb dL_between_12 (by decide) ?_
    refine lv_iconst (v := 0) hx hb dL_between_23 (by decide) ?_
    exact W.iret (v := 0) hx hb hr (fun t ht hW => ⟨⟨0, (vp_updL f0 (0 : Int32).toNatClampNeg ((0 : Int32).toInt64)), rfl, ⟨by simp [cd, hc0], fun _ => rfl⟩, P_at ht hP⟩, hS.F ht⟩) hS.2.2 dL_between_24
set_option maxHeartbeats 4000000 in
set_option maxRecDepth 100000 in
theorem c_L_keys (l : Launch) (hlf : l.stackTraces = false) (dC : Nat → ClassId) (dI : Nat → Nat → Nat) (g : Nat → ClassId) (a : Nat → Nat) (x : Int32) (ou : Nat) (f0 : Nat → Int64) (sz : Nat) : Met l yL_keys wsL_keys ({ frames := 9, cells := 8, slots := 48, locals := 149 }) (va_Pc [.ref (a 0), .int x, .ref ou] (PG (dC, dI) g (offW a g ++ [(ou, .inl (g 2, 1, .inr (.inl f0)))]) sz)) (va_Qi (fun (r : Int32) (fz : Nat → Int64) => r = (cd (TOKb x) true true) ∧ ((cd (TOKb x) true true) = 0 → fz 0 = (0 : Int32).toInt64)) (fun (fz : Nat → Int64) t => va_P (dC, dI) vwCl [(ou, .inl (g 2, 1, .inr (.inl fz)))] t.heap) (va_A (offW a g ++ [(ou, .inl (g 2, 1, .inr (.inl f0)))]) sz)) 8 48 (va_A (offW a g ++ [(ou, .inl (g 2, 1, .inr (.inl f0)))]) sz) := by
  refine mt_ofWH (cc := cL_keys) (maxL := 4) (ret := (some .int)) (by decide) rfl ?_
  intro p e s m args below meth c s₁ B hml hv
  obtain ⟨rfl, hsz, hP, hK, hD0, hG⟩ := hv
  have hx := B.exec
  have hb := B.bytes
  have hr := B.returns
  have hts := atoms_spec (ws := wsL_keys) B.pre
  have hown : s.vm.findClass RL = some m.cls := findClass_of_methodNamed B.named
  have hlocks := B.notSynchronized
  have hTab := vx_table (x := yL_keys) B (hts (Cond.codeWith yL_keys cL_keys 4 (some .int) [(0, 9, 12, 13), (0, 9, 15, 17)]) (List.mem_cons_self))
  subst hsz
  have hD := hD0.self (sz := s.heap.size)
  generalize hAe : va_A (offW a g ++ [(ou, .inl (g 2, 1, .inr (.inl f0)))]) s.heap.size = A at hD hG ⊢
  have hA : ∀ q : Nat, s.heap.size ≤ q → A q := fun q h => by rw [← hAe]; exact Or.inr h
  have hS : va_S A s.heap s.heap [] := va_S.rf
  have hl := lv_entry ([.ref (a 0), .int x, .ref ou]) (n := 4) (Nat.le_of_ble_eq_true rfl)
  rw [lg_entry_eq]
  generalize (lg_sl ([.ref (a 0), .int x, .ref ou]) ++ List.replicate (4 - (lg_sl ([.ref (a 0), .int x, .ref ou])).length) Slot.unset).toArray = ls at hl ⊢
  have hl : lv_has ls 4 [(0, .ref (a 0)), (1, .int x), (2, .ref ou)] := hl
  have hxl0 := hts (Cond.classLink RL 13 "java/lang/IndexOutOfBoundsException") (by decide +kernel)
  refine lv_aload_n hx hb dL_keys_0 rfl (lv_at hl 2 rfl) ?_
  refine lv_iconst (v := 0) hx hb dL_keys_1 (by decide) ?_
  refine lv_aload_n hx hb dL_keys_2 rfl (lv_at hl 0 rfl) ?_
  refine lv_iload_n hx hb dL_keys_3 rfl (lv_at hl 1 rfl) ?_
  have hDc := D_l hD
  have hPc := P_l hP
  have hFc : ∀ q, va_A (offW a g) s.heap.size q → A q := A_all hDc hA hS.1
  refine vx_calli (vx_runV (As := [.int x]) (rest := [.int 0, .ref ou]) ⟨hx, hb, hml, hown, hts⟩ (c_X11_keys l hlf dC dI g a x s.heap.size) (cwV 1 hts gL_keys_X11_keys rfl rfl rfl (by decide +kernel) ⟨Nat.le_of_ble_eq_true rfl, Nat.le_of_ble_eq_true rfl⟩) ⟨PG_blind, va_recv hK hP (ci := 13) (q0 := 0) rfl rfl, PG_call hK hG hS hPc hDc hFc⟩ rfl rfl hl.1 rfl (lv_room (Nat.le_of_ble_eq_true rfl)) dL_keys_4 ⟨Nat.le_of_ble_eq_true rfl, Nat.le_of_ble_eq_true rfl⟩) hS (fun q _ h => hFc q h) hFc (fun q _ h => hFc q h) (fun E ce q9 u t H1 locs1 ht9 hvm hp9 hB9 hz hk hS9 hce hcv hcl => ?_) (fun r_1 u_1 t_1 H_1 L_1 ht_1 hvm_1 hw_1 hB_1 hz_1 hk_1 hS => ?_)
  · have hP := rest_kept hP hD hk
    have hD := D_r hD
    have h9 : E = "java/lang/IndexOutOfBoundsException" ∧ (TOKb x) = false := hB9
    rcases h9 with ⟨rfl, hc0⟩
    · refine vx_catch (own := RL) (name := "java/lang/IndexOutOfBoundsException") (E := "java/lang/IndexOutOfBoundsException") hown [] ⟨0, 9, 12, 13⟩ [⟨0, 9, 15, 17⟩] (by rw [hTab]; rfl) (fun z hz => absurd hz List.not_mem_nil) (by decide) (by decide) hxl0 (xc_0 hG) hce hcv hcl ?_
      have hS := hS9
      have ht_1 := ht9
      refine lv_astore_n (lv' := [(3, .ref q9), (0, .ref (a 0)), (1, .int x), (2, .ref ou)]) hx hb dL_keys_12 rfl hl (by decide) rfl (fun ls hl => ?_)
      refine lv_iconst (v := 1) hx hb dL_keys_13 (by decide) ?_
      exact W.iret (v := 1) hx hb hr (fun t ht hW => ⟨⟨1, f0, rfl, ⟨by simp [cd, hc0], fun h => absurd h (by simp [cd, hc0])⟩, P_at ht hP⟩, hS.F ht⟩) hS.2.2 dL_keys_14
  · have hP := rest_kept hP hD hk_1
    have hD := D_r hD
    obtain ⟨hc0, rfl⟩ := hw_1
    refine lv_i2l (v := (0 : Int32).toInt64) hx hb dL_keys_7 rfl ?_
    refine va_last hx hb hK hP hD hS 0 2 rfl rfl (by unfold vp_in; decide) dL_keys_8 (fun H_7 L_7 hP hD hS => ?_)
    have hP : va_P (dC, dI) vwCl [(ou, .inl (g 2, 1, .inr (.inl (vp_updL f0 (0 : Int32).toNatClampNeg ((0 : Int32).toInt64)))))] H_7 := hP
    refine lv_goto (tgt := 18) hx hb dL_keys_9 (by decide) ?_
    refine lv_iconst (v := 0) hx hb dL_keys_18 (by decide) ?_
    exact W.iret (v := 0) hx hb hr (fun t ht hW => ⟨⟨0, (vp_updL f0 (0 : Int32).toNatClampNeg ((0 : Int32).toInt64)), rfl, ⟨by simp [cd, hc0], fun _ => rfl⟩, P_at ht hP⟩, hS.F ht⟩) hS.2.2 dL_keys_19
set_option maxHeartbeats 4000000 in
set_option maxRecDepth 100000 in
theorem c_L_type (l : Launch) (hlf : l.stackTraces = false) (dC : Nat → ClassId) (dI : Nat → Nat → Nat) (g : Nat → ClassId) (a : Nat → Nat) (y : Int64) (ou : Nat) (f0 : Nat → Int64) (sz : Nat) : Met l yL_type wsL_type ({ frames := 2, cells := 0, slots := 0, locals := 47 }) (va_Pc [.ref (a 0), .long y, .ref ou] (PG (dC, dI) g (offW a g ++ [(ou, .inl (g 2, 1, .inr (.inl f0)))]) sz)) (va_Qi (fun (r : Int32) (fz : Nat → Int64) => r = (cd true true true) ∧ ((cd true true true) = 0 → fz 0 = (nI (ct y 8) : Int32).toInt64)) (fun (fz : Nat → Int64) t => va_P (dC, dI) vwCl [(ou, .inl (g 2, 1, .inr (.inl fz)))] t.heap) (va_A (offW a g ++ [(ou, .inl (g 2, 1, .inr (.inl f0)))]) sz)) 0 0 (va_A (offW a g ++ [(ou, .inl (g 2, 1, .inr (.inl f0)))]) sz) := by
  refine mt_ofWH (cc := cL_type) (maxL := 5) (ret := (some .int)) (by decide) rfl ?_
  intro p e s m args below meth c s₁ B hml hv
  obtain ⟨rfl, hsz, hP, hK, hD0, hG⟩ := hv
  have hx := B.exec
  have hb := B.bytes
  have hr := B.returns
  have hts := atoms_spec (ws := wsL_type) B.pre
  have hown : s.vm.findClass RL = some m.cls := findClass_of_methodNamed B.named
  have hlocks := B.notSynchronized
  have hTab := vx_table (x := yL_type) B (hts (Cond.codeWith yL_type cL_type 5 (some .int) [(0, 9, 12, 17)]) (List.mem_cons_self))
  subst hsz
  have hD := hD0.self (sz := s.heap.size)
  generalize hAe : va_A (offW a g ++ [(ou, .inl (g 2, 1, .inr (.inl f0)))]) s.heap.size = A at hD hG ⊢
  have hA : ∀ q : Nat, s.heap.size ≤ q → A q := fun q h => by rw [← hAe]; exact Or.inr h
  have hS : va_S A s.heap s.heap [] := va_S.rf
  have hl := lv_entry ([.ref (a 0), .long y, .ref ou]) (n := 5) (Nat.le_of_ble_eq_true rfl)
  rw [lg_entry_eq]
  generalize (lg_sl ([.ref (a 0), .long y, .ref ou]) ++ List.replicate (5 - (lg_sl ([.ref (a 0), .long y, .ref ou])).length) Slot.unset).toArray = ls at hl ⊢
  have hl : lv_has ls 5 [(0, .ref (a 0)), (1, .long y), (3, .ref ou)] := hl
  refine lv_aload_n hx hb dL_type_0 rfl (lv_at hl 2 rfl) ?_
  refine lv_iconst (v := 0) hx hb dL_type_1 (by decide) ?_
  refine lv_aload_n hx hb dL_type_2 rfl (lv_at hl 0 rfl) ?_
  refine lv_lload_n hx hb dL_type_3 rfl (lv_at hl 1 rfl) ?_
  have hDc := D_l hD
  have hPc := P_l hP
  have hFc : ∀ q, va_A (offW a g) s.heap.size q → A q := A_all hDc hA hS.1
  refine va_calli (va_runV (As := [.long y]) (rest := [.int 0, .ref ou]) ⟨hx, hb, hml, hown, hts⟩ (c_X11_type l dC dI g a y s.heap.size) (cwV 1 hts gL_type_X11_type rfl rfl rfl (by decide +kernel) ⟨Nat.le_of_ble_eq_true rfl, Nat.le_of_ble_eq_true rfl⟩) ⟨PG_blind, va_recv hK hP (ci := 13) (q0 := 0) rfl rfl, PG_call hK hG hS hPc hDc hFc⟩ rfl rfl hl.1 rfl (lv_room (Nat.le_of_ble_eq_true rfl)) dL_type_4 ⟨Nat.le_of_ble_eq_true rfl, Nat.le_of_ble_eq_true rfl⟩) hS (fun q _ h => hFc q h) hFc (fun r_1 u_1 t_1 H_1 L_1 ht_1 hvm_1 hw_1 hB_1 hz_1 hk_1 hS => ?_)
  have hP := rest_kept hP hD hk_1
  have hD := D_r hD
  obtain rfl := hw_1
  refine lv_i2l (v := (nI (ct y 8)).toInt64) hx hb dL_type_7 rfl ?_
  refine va_last hx hb hK hP hD hS 0 2 rfl rfl (by unfold vp_in; decide) dL_type_8 (fun H_7 L_7 hP hD hS => ?_)
  have hP : va_P (dC, dI) vwCl [(ou, .inl (g 2, 1, .inr (.inl (vp_updL f0 (0 : Int32).toNatClampNeg ((nI (ct y 8)).toInt64)))))] H_7 := hP
  refine lv_goto (tgt := 16) hx hb dL_type_9 (by decide) ?_
  refine lv_iconst (v := 0) hx hb dL_type_16 (by decide) ?_
  exact W.iret (v := 0) hx hb hr (fun t ht hW => ⟨⟨0, (vp_updL f0 (0 : Int32).toNatClampNeg ((nI (ct y 8)).toInt64)), rfl, ⟨by simp [cd], fun _ => rfl⟩, P_at ht hP⟩, hS.F ht⟩) hS.2.2 dL_type_17
set_option maxHeartbeats 4000000 in
set_option maxRecDepth 100000 in
theorem c_L_example (l : Launch) (hlf : l.stackTraces = false) (dC : Nat → ClassId) (dI : Nat → Nat → Nat) (g : Nat → ClassId) (a : Nat → Nat) (x : Int32) (ou : Nat) (f0 : Nat → Int64) (sz : Nat) : Met l yL_example wsL_example ({ frames := 8, cells := 8, slots := 48, locals := 128 }) (va_Pc [.ref (a 0), .int x, .ref ou] (PG (dC, dI) g (offW a g ++ [(ou, .inl (g 2, 1, .inr (.inl f0)))]) sz)) (va_Qi (fun (r : Int32) (fz : Nat → Int64) => r = (cd (rngb x 0 2) true true) ∧ ((cd (rngb x 0 2) true true) = 0 → fz 0 = (exl x : Int32).toInt64)) (fun (fz : Nat → Int64) t => va_P (dC, dI) vwCl [(ou, .inl (g 2, 1, .inr (.inl fz)))] t.heap) (va_A (offW a g ++ [(ou, .inl (g 2, 1, .inr (.inl f0)))]) sz)) 8 48 (va_A (offW a g ++ [(ou, .inl (g 2, 1, .inr (.inl f0)))]) sz) := by
  refine mt_ofWH (cc := cL_example) (maxL := 4) (ret := (some .int)) (by decide) rfl ?_
  intro p e s m args below meth c s₁ B hml hv
  obtain ⟨rfl, hsz, hP, hK, hD0, hG⟩ := hv
  have hx := B.exec
  have hb := B.bytes
  have hr := B.returns
  have hts := atoms_spec (ws := wsL_example) B.pre
  have hown : s.vm.findClass RL = some m.cls := findClass_of_methodNamed B.named
  have hlocks := B.notSynchronized
  have hTab := vx_table (x := yL_example) B (hts (Cond.codeWith yL_example cL_example 4 (some .int) [(0, 9, 12, 15)]) (List.mem_cons_self))
  subst hsz
  have hD := hD0.self (sz := s.heap.size)
  generalize hAe : va_A (offW a g ++ [(ou, .inl (g 2, 1, .inr (.inl f0)))]) s.heap.size = A at hD hG ⊢
  have hA : ∀ q : Nat, s.heap.size ≤ q → A q := fun q h => by rw [← hAe]; exact Or.inr h
  have hS : va_S A s.heap s.heap [] := va_S.rf
  have hl := lv_entry ([.ref (a 0), .int x, .ref ou]) (n := 4) (Nat.le_of_ble_eq_true rfl)
  rw [lg_entry_eq]
  generalize (lg_sl ([.ref (a 0), .int x, .ref ou]) ++ List.replicate (4 - (lg_sl ([.ref (a 0), .int x, .ref ou])).length) Slot.unset).toArray = ls at hl ⊢
  have hl : lv_has ls 4 [(0, .ref (a 0)), (1, .int x), (2, .ref ou)] := hl
  have hxl0 := hts (Cond.classLink RL 15 "java/lang/IllegalArgumentException") (by decide +kernel)
  refine lv_aload_n hx hb dL_example_0 rfl (lv_at hl 2 rfl) ?_
  refine lv_iconst (v := 0) hx hb dL_example_1 (by decide) ?_
  refine lv_aload_n hx hb dL_example_2 rfl (lv_at hl 0 rfl) ?_
  refine lv_iload_n hx hb dL_example_3 rfl (lv_at hl 1 rfl) ?_
  have hDc := D_l hD
  have hPc := P_l hP
  have hFc : ∀ q, va_A (offW a g) s.heap.size q → A q := A_all hDc hA hS.1
  refine vx_calli (vx_runV (As := [.int x]) (rest := [.int 0, .ref ou]) ⟨hx, hb, hml, hown, hts⟩ (c_X11_example l hlf dC dI g a x s.heap.size) (cwV 1 hts gL_example_X11_example rfl rfl rfl (by decide +kernel) ⟨Nat.le_of_ble_eq_true rfl, Nat.le_of_ble_eq_true rfl⟩) ⟨PG_blind, va_recv hK hP (ci := 13) (q0 := 0) rfl rfl, PG_call hK hG hS hPc hDc hFc⟩ rfl rfl hl.1 rfl (lv_room (Nat.le_of_ble_eq_true rfl)) dL_example_4 ⟨Nat.le_of_ble_eq_true rfl, Nat.le_of_ble_eq_true rfl⟩) hS (fun q _ h => hFc q h) hFc (fun q _ h => hFc q h) (fun E ce q9 u t H1 locs1 ht9 hvm hp9 hB9 hz hk hS9 hce hcv hcl => ?_) (fun r_1 u_1 t_1 H_1 L_1 ht_1 hvm_1 hw_1 hB_1 hz_1 hk_1 hS => ?_)
  · have hP := rest_kept hP hD hk
    have hD := D_r hD
    have h9 : E = "java/lang/IllegalArgumentException" ∧ (rngb x 0 2) = false := hB9
    rcases h9 with ⟨rfl, hc0⟩
    · refine vx_catch (own := RL) (name := "java/lang/IllegalArgumentException") (E := "java/lang/IllegalArgumentException") hown [] ⟨0, 9, 12, 15⟩ [] (by rw [hTab]; rfl) (fun z hz => absurd hz List.not_mem_nil) (by decide) (by decide) hxl0 (xc_1 hG) hce hcv hcl ?_
      have hS := hS9
      have ht_1 := ht9
      refine lv_astore_n (lv' := [(3, .ref q9), (0, .ref (a 0)), (1, .int x), (2, .ref ou)]) hx hb dL_example_12 rfl hl (by decide) rfl (fun ls hl => ?_)
      refine lv_iconst (v := 1) hx hb dL_example_13 (by decide) ?_
      exact W.iret (v := 1) hx hb hr (fun t ht hW => ⟨⟨1, f0, rfl, ⟨by simp [cd, hc0], fun h => absurd h (by simp [cd, hc0])⟩, P_at ht hP⟩, hS.F ht⟩) hS.2.2 dL_example_14
  · have hP := rest_kept hP hD hk_1
    have hD := D_r hD
    obtain ⟨hc0, rfl⟩ := hw_1
    refine lv_i2l (v := (exl x).toInt64) hx hb dL_example_7 rfl ?_
    refine va_last hx hb hK hP hD hS 0 2 rfl rfl (by unfold vp_in; decide) dL_example_8 (fun H_7 L_7 hP hD hS => ?_)
    have hP : va_P (dC, dI) vwCl [(ou, .inl (g 2, 1, .inr (.inl (vp_updL f0 (0 : Int32).toNatClampNeg ((exl x).toInt64)))))] H_7 := hP
    refine lv_goto (tgt := 15) hx hb dL_example_9 (by decide) ?_
    refine lv_iconst (v := 0) hx hb dL_example_15 (by decide) ?_
    exact W.iret (v := 0) hx hb hr (fun t ht hW => ⟨⟨0, (vp_updL f0 (0 : Int32).toNatClampNeg ((exl x).toInt64)), rfl, ⟨by simp [cd, hc0], fun _ => rfl⟩, P_at ht hP⟩, hS.F ht⟩) hS.2.2 dL_example_16
set_option maxHeartbeats 4000000 in
set_option maxRecDepth 100000 in
theorem c_L_run (l : Launch) (hlf : l.stackTraces = false) (dC : Nat → ClassId) (dI : Nat → Nat → Nat) (g : Nat → ClassId) (a : Nat → Nat) (ou : Nat) (f0 : Nat → Int64) (sz : Nat) : Met l yL_run wsL_run ({ frames := 5, cells := 0, slots := 0, locals := 106 }) (va_Pc [.ref (a 0), .ref ou] (PG (dC, dI) g (offW a g ++ [(ou, .inl (g 2, 1, .inr (.inl f0)))]) sz)) (va_Qi (fun (r : Int32) (fz : Nat → Int64) => r = (cd true true true) ∧ ((cd true true true) = 0 → fz 0 = (0 : Int32).toInt64)) (fun (fz : Nat → Int64) t => va_P (dC, dI) vwCl [(ou, .inl (g 2, 1, .inr (.inl fz)))] t.heap) (va_A (offW a g ++ [(ou, .inl (g 2, 1, .inr (.inl f0)))]) sz)) 0 0 (va_A (offW a g ++ [(ou, .inl (g 2, 1, .inr (.inl f0)))]) sz) := by
  refine mt_ofWH (cc := cL_run) (maxL := 3) (ret := (some .int)) (by decide) rfl ?_
  intro p e s m args below meth c s₁ B hml hv
  obtain ⟨rfl, hsz, hP, hK, hD0, hG⟩ := hv
  have hx := B.exec
  have hb := B.bytes
  have hr := B.returns
  have hts := atoms_spec (ws := wsL_run) B.pre
  have hown : s.vm.findClass RL = some m.cls := findClass_of_methodNamed B.named
  have hlocks := B.notSynchronized
  have hTab := vx_table (x := yL_run) B (hts (Cond.codeWith yL_run cL_run 3 (some .int) [(0, 8, 11, 17)]) (List.mem_cons_self))
  subst hsz
  have hD := hD0.self (sz := s.heap.size)
  generalize hAe : va_A (offW a g ++ [(ou, .inl (g 2, 1, .inr (.inl f0)))]) s.heap.size = A at hD hG ⊢
  have hA : ∀ q : Nat, s.heap.size ≤ q → A q := fun q h => by rw [← hAe]; exact Or.inr h
  have hS : va_S A s.heap s.heap [] := va_S.rf
  have hl := lv_entry ([.ref (a 0), .ref ou]) (n := 3) (Nat.le_of_ble_eq_true rfl)
  rw [lg_entry_eq]
  generalize (lg_sl ([.ref (a 0), .ref ou]) ++ List.replicate (3 - (lg_sl ([.ref (a 0), .ref ou])).length) Slot.unset).toArray = ls at hl ⊢
  have hl : lv_has ls 3 [(0, .ref (a 0)), (1, .ref ou)] := hl
  refine lv_aload_n hx hb dL_run_0 rfl (lv_at hl 1 rfl) ?_
  refine lv_iconst (v := 0) hx hb dL_run_1 (by decide) ?_
  refine lv_aload_n hx hb dL_run_2 rfl (lv_at hl 0 rfl) ?_
  have hDc := D_l hD
  have hPc := P_l hP
  have hFc : ∀ q, va_A (offW a g) s.heap.size q → A q := A_all hDc hA hS.1
  refine va_calli (va_runV (As := []) (rest := [.int 0, .ref ou]) ⟨hx, hb, hml, hown, hts⟩ (c_X11_run l dC dI g a s.heap.size) (cwV 0 hts gL_run_X11_run rfl rfl rfl (by decide +kernel) ⟨Nat.le_of_ble_eq_true rfl, Nat.le_of_ble_eq_true rfl⟩) ⟨PG_blind, va_recv hK hP (ci := 13) (q0 := 0) rfl rfl, PG_call hK hG hS hPc hDc hFc⟩ rfl rfl hl.1 rfl (lv_room (Nat.le_of_ble_eq_true rfl)) dL_run_3 ⟨Nat.le_of_ble_eq_true rfl, Nat.le_of_ble_eq_true rfl⟩) hS (fun q _ h => hFc q h) hFc (fun r_1 u_1 t_1 H_1 L_1 ht_1 hvm_1 hw_1 hB_1 hz_1 hk_1 hS => ?_)
  have hP := rest_kept hP hD hk_1
  have hD := D_r hD
  obtain rfl := hw_1
  refine lv_i2l (v := (0 : Int32).toInt64) hx hb dL_run_6 rfl ?_
  refine va_last hx hb hK hP hD hS 0 2 rfl rfl (by unfold vp_in; decide) dL_run_7 (fun H_7 L_7 hP hD hS => ?_)
  have hP : va_P (dC, dI) vwCl [(ou, .inl (g 2, 1, .inr (.inl (vp_updL f0 (0 : Int32).toNatClampNeg ((0 : Int32).toInt64)))))] H_7 := hP
  refine lv_goto (tgt := 14) hx hb dL_run_8 (by decide) ?_
  refine lv_iconst (v := 0) hx hb dL_run_14 (by decide) ?_
  exact W.iret (v := 0) hx hb hr (fun t ht hW => ⟨⟨0, (vp_updL f0 (0 : Int32).toNatClampNeg ((0 : Int32).toInt64)), rfl, ⟨by simp [cd], fun _ => rfl⟩, P_at ht hP⟩, hS.F ht⟩) hS.2.2 dL_run_15
set_option maxHeartbeats 4000000 in
set_option maxRecDepth 100000 in
theorem c_L_errors (l : Launch) (hlf : l.stackTraces = false) (dC : Nat → ClassId) (dI : Nat → Nat → Nat) (g : Nat → ClassId) (a : Nat → Nat) (x : Int32) (ou : Nat) (f0 : Nat → Int64) (sz : Nat) : Met l yL_errors wsL_errors ({ frames := 8, cells := 8, slots := 48, locals := 177 }) (va_Pc [.ref (a 0), .int x, .ref ou] (PG (dC, dI) g (offW a g ++ [(ou, .inl (g 2, 1, .inr (.inl f0)))]) sz)) (va_Qi (fun (r : Int32) (fz : Nat → Int64) => r = (cd (TOKb x) true true) ∧ ((cd (TOKb x) true true) = 0 → fz 0 = (0 : Int32).toInt64)) (fun (fz : Nat → Int64) t => va_P (dC, dI) vwCl [(ou, .inl (g 2, 1, .inr (.inl fz)))] t.heap) (va_A (offW a g ++ [(ou, .inl (g 2, 1, .inr (.inl f0)))]) sz)) 8 48 (va_A (offW a g ++ [(ou, .inl (g 2, 1, .inr (.inl f0)))]) sz) := by
  refine mt_ofWH (cc := cL_errors) (maxL := 4) (ret := (some .int)) (by decide) rfl ?_
  intro p e s m args below meth c s₁ B hml hv
  obtain ⟨rfl, hsz, hP, hK, hD0, hG⟩ := hv
  have hx := B.exec
  have hb := B.bytes
  have hr := B.returns
  have hts := atoms_spec (ws := wsL_errors) B.pre
  have hown : s.vm.findClass RL = some m.cls := findClass_of_methodNamed B.named
  have hlocks := B.notSynchronized
  have hTab := vx_table (x := yL_errors) B (hts (Cond.codeWith yL_errors cL_errors 4 (some .int) [(0, 9, 12, 13)]) (List.mem_cons_self))
  subst hsz
  have hD := hD0.self (sz := s.heap.size)
  generalize hAe : va_A (offW a g ++ [(ou, .inl (g 2, 1, .inr (.inl f0)))]) s.heap.size = A at hD hG ⊢
  have hA : ∀ q : Nat, s.heap.size ≤ q → A q := fun q h => by rw [← hAe]; exact Or.inr h
  have hS : va_S A s.heap s.heap [] := va_S.rf
  have hl := lv_entry ([.ref (a 0), .int x, .ref ou]) (n := 4) (Nat.le_of_ble_eq_true rfl)
  rw [lg_entry_eq]
  generalize (lg_sl ([.ref (a 0), .int x, .ref ou]) ++ List.replicate (4 - (lg_sl ([.ref (a 0), .int x, .ref ou])).length) Slot.unset).toArray = ls at hl ⊢
  have hl : lv_has ls 4 [(0, .ref (a 0)), (1, .int x), (2, .ref ou)] := hl
  have hxl0 := hts (Cond.classLink RL 13 "java/lang/IndexOutOfBoundsException") (by decide +kernel)
  refine lv_aload_n hx hb dL_errors_0 rfl (lv_at hl 2 rfl) ?_
  refine lv_iconst (v := 0) hx hb dL_errors_1 (by decide) ?_
  refine lv_aload_n hx hb dL_errors_2 rfl (lv_at hl 0 rfl) ?_
  refine lv_iload_n hx hb dL_errors_3 rfl (lv_at hl 1 rfl) ?_
  have hDc := D_l hD
  have hPc := P_l hP
  have hFc : ∀ q, va_A (offW a g) s.heap.size q → A q := A_all hDc hA hS.1
  refine vx_calli (vx_runV (As := [.int x]) (rest := [.int 0, .ref ou]) ⟨hx, hb, hml, hown, hts⟩ (c_X11_errors l hlf dC dI g a x s.heap.size) (cwV 1 hts gL_errors_X11_errors rfl rfl rfl (by decide +kernel) ⟨Nat.le_of_ble_eq_true rfl, Nat.le_of_ble_eq_true rfl⟩) ⟨PG_blind, va_recv hK hP (ci := 13) (q0 := 0) rfl rfl, PG_call hK hG hS hPc hDc hFc⟩ rfl rfl hl.1 rfl (lv_room (Nat.le_of_ble_eq_true rfl)) dL_errors_4 ⟨Nat.le_of_ble_eq_true rfl, Nat.le_of_ble_eq_true rfl⟩) hS (fun q _ h => hFc q h) hFc (fun q _ h => hFc q h) (fun E ce q9 u t H1 locs1 ht9 hvm hp9 hB9 hz hk hS9 hce hcv hcl => ?_) (fun r_1 u_1 t_1 H_1 L_1 ht_1 hvm_1 hw_1 hB_1 hz_1 hk_1 hS => ?_)
  · have hP := rest_kept hP hD hk
    have hD := D_r hD
    have h9 : E = "java/lang/IndexOutOfBoundsException" ∧ (TOKb x) = false := hB9
    rcases h9 with ⟨rfl, hc0⟩
    · refine vx_catch (own := RL) (name := "java/lang/IndexOutOfBoundsException") (E := "java/lang/IndexOutOfBoundsException") hown [] ⟨0, 9, 12, 13⟩ [] (by rw [hTab]; rfl) (fun z hz => absurd hz List.not_mem_nil) (by decide) (by decide) hxl0 (xc_0 hG) hce hcv hcl ?_
      have hS := hS9
      have ht_1 := ht9
      refine lv_astore_n (lv' := [(3, .ref q9), (0, .ref (a 0)), (1, .int x), (2, .ref ou)]) hx hb dL_errors_12 rfl hl (by decide) rfl (fun ls hl => ?_)
      refine lv_iconst (v := 1) hx hb dL_errors_13 (by decide) ?_
      exact W.iret (v := 1) hx hb hr (fun t ht hW => ⟨⟨1, f0, rfl, ⟨by simp [cd, hc0], fun h => absurd h (by simp [cd, hc0])⟩, P_at ht hP⟩, hS.F ht⟩) hS.2.2 dL_errors_14
  · have hP := rest_kept hP hD hk_1
    have hD := D_r hD
    obtain ⟨hc0, rfl⟩ := hw_1
    refine lv_i2l (v := (0 : Int32).toInt64) hx hb dL_errors_7 rfl ?_
    refine va_last hx hb hK hP hD hS 0 2 rfl rfl (by unfold vp_in; decide) dL_errors_8 (fun H_7 L_7 hP hD hS => ?_)
    have hP : va_P (dC, dI) vwCl [(ou, .inl (g 2, 1, .inr (.inl (vp_updL f0 (0 : Int32).toNatClampNeg ((0 : Int32).toInt64)))))] H_7 := hP
    refine lv_goto (tgt := 15) hx hb dL_errors_9 (by decide) ?_
    refine lv_iconst (v := 0) hx hb dL_errors_15 (by decide) ?_
    exact W.iret (v := 0) hx hb hr (fun t ht hW => ⟨⟨0, (vp_updL f0 (0 : Int32).toNatClampNeg ((0 : Int32).toInt64)), rfl, ⟨by simp [cd, hc0], fun _ => rfl⟩, P_at ht hP⟩, hS.F ht⟩) hS.2.2 dL_errors_16
set_option maxHeartbeats 4000000 in
set_option maxRecDepth 100000 in
theorem c_L_meanKey (l : Launch) (hlf : l.stackTraces = false) (dC : Nat → ClassId) (dI : Nat → Nat → Nat) (g : Nat → ClassId) (a : Nat → Nat) (x : Int32) (ou : Nat) (f0 : Nat → UInt64) (sz : Nat) : Met l yL_meanKey wsL_meanKey ({ frames := 8, cells := 8, slots := 48, locals := 127 }) (va_Pc [.ref (a 0), .int x, .ref ou] (PG (dC, dI) g (offW a g ++ [(ou, .inl (g 3, 1, .inr (.inr (.inr (.inl f0)))))]) sz)) (va_Qi (fun (r : Int32) (fz : Nat → UInt64) => r = (cd (TOKb x) true true) ∧ ((cd (TOKb x) true true) = 0 → fz 0 = FP.dconst0)) (fun (fz : Nat → UInt64) t => va_P (dC, dI) vwCl [(ou, .inl (g 3, 1, .inr (.inr (.inr (.inl fz)))))] t.heap) (va_A (offW a g ++ [(ou, .inl (g 3, 1, .inr (.inr (.inr (.inl f0)))))]) sz)) 8 48 (va_A (offW a g ++ [(ou, .inl (g 3, 1, .inr (.inr (.inr (.inl f0)))))]) sz) := by
  refine mt_ofWH (cc := cL_meanKey) (maxL := 4) (ret := (some .int)) (by decide) rfl ?_
  intro p e s m args below meth c s₁ B hml hv
  obtain ⟨rfl, hsz, hP, hK, hD0, hG⟩ := hv
  have hx := B.exec
  have hb := B.bytes
  have hr := B.returns
  have hts := atoms_spec (ws := wsL_meanKey) B.pre
  have hown : s.vm.findClass RL = some m.cls := findClass_of_methodNamed B.named
  have hlocks := B.notSynchronized
  have hTab := vx_table (x := yL_meanKey) B (hts (Cond.codeWith yL_meanKey cL_meanKey 4 (some .int) [(0, 8, 11, 13)]) (List.mem_cons_self))
  subst hsz
  have hD := hD0.self (sz := s.heap.size)
  generalize hAe : va_A (offW a g ++ [(ou, .inl (g 3, 1, .inr (.inr (.inr (.inl f0)))))]) s.heap.size = A at hD hG ⊢
  have hA : ∀ q : Nat, s.heap.size ≤ q → A q := fun q h => by rw [← hAe]; exact Or.inr h
  have hS : va_S A s.heap s.heap [] := va_S.rf
  have hl := lv_entry ([.ref (a 0), .int x, .ref ou]) (n := 4) (Nat.le_of_ble_eq_true rfl)
  rw [lg_entry_eq]
  generalize (lg_sl ([.ref (a 0), .int x, .ref ou]) ++ List.replicate (4 - (lg_sl ([.ref (a 0), .int x, .ref ou])).length) Slot.unset).toArray = ls at hl ⊢
  have hl : lv_has ls 4 [(0, .ref (a 0)), (1, .int x), (2, .ref ou)] := hl
  have hxl0 := hts (Cond.classLink RL 13 "java/lang/IndexOutOfBoundsException") (by decide +kernel)
  refine lv_aload_n hx hb dL_meanKey_0 rfl (lv_at hl 2 rfl) ?_
  refine lv_iconst (v := 0) hx hb dL_meanKey_1 (by decide) ?_
  refine lv_aload_n hx hb dL_meanKey_2 rfl (lv_at hl 0 rfl) ?_
  refine lv_iload_n hx hb dL_meanKey_3 rfl (lv_at hl 1 rfl) ?_
  have hDc := D_l hD
  have hPc := P_l hP
  have hFc : ∀ q, va_A (offW a g) s.heap.size q → A q := A_all hDc hA hS.1
  refine vx_calld (vx_runV (As := [.int x]) (rest := [.int 0, .ref ou]) ⟨hx, hb, hml, hown, hts⟩ (c_X11_meanKey l hlf dC dI g a x s.heap.size) (cwV 1 hts gL_meanKey_X11_meanKey rfl rfl rfl (by decide +kernel) ⟨Nat.le_of_ble_eq_true rfl, Nat.le_of_ble_eq_true rfl⟩) ⟨PG_blind, va_recv hK hP (ci := 13) (q0 := 0) rfl rfl, PG_call hK hG hS hPc hDc hFc⟩ rfl rfl hl.1 rfl (lv_room (Nat.le_of_ble_eq_true rfl)) dL_meanKey_4 ⟨Nat.le_of_ble_eq_true rfl, Nat.le_of_ble_eq_true rfl⟩) hS (fun q _ h => hFc q h) hFc (fun q _ h => hFc q h) (fun E ce q9 u t H1 locs1 ht9 hvm hp9 hB9 hz hk hS9 hce hcv hcl => ?_) (fun r_1 u_1 t_1 H_1 L_1 ht_1 hvm_1 hw_1 hB_1 hz_1 hk_1 hS => ?_)
  · have hP := rest_kept hP hD hk
    have hD := D_r hD
    have h9 : E = "java/lang/IndexOutOfBoundsException" ∧ (TOKb x) = false := hB9
    rcases h9 with ⟨rfl, hc0⟩
    · refine vx_catch (own := RL) (name := "java/lang/IndexOutOfBoundsException") (E := "java/lang/IndexOutOfBoundsException") hown [] ⟨0, 8, 11, 13⟩ [] (by rw [hTab]; rfl) (fun z hz => absurd hz List.not_mem_nil) (by decide) (by decide) hxl0 (xc_0 hG) hce hcv hcl ?_
      have hS := hS9
      have ht_1 := ht9
      refine lv_astore_n (lv' := [(3, .ref q9), (0, .ref (a 0)), (1, .int x), (2, .ref ou)]) hx hb dL_meanKey_11 rfl hl (by decide) rfl (fun ls hl => ?_)
      refine lv_iconst (v := 1) hx hb dL_meanKey_12 (by decide) ?_
      exact W.iret (v := 1) hx hb hr (fun t ht hW => ⟨⟨1, f0, rfl, ⟨by simp [cd, hc0], fun h => absurd h (by simp [cd, hc0])⟩, P_at ht hP⟩, hS.F ht⟩) hS.2.2 dL_meanKey_13
  · have hP := rest_kept hP hD hk_1
    have hD := D_r hD
    obtain ⟨hc0, rfl⟩ := hw_1
    refine va_dast hx hb hK hP hD hS 0 3 rfl rfl (by unfold vp_in; decide) dL_meanKey_7 (fun H_7 L_7 hP hD hS => ?_)
    have hP : va_P (dC, dI) vwCl [(ou, .inl (g 3, 1, .inr (.inr (.inr (.inl (vf_upd f0 (0 : Int32).toNatClampNeg FP.dconst0))))))] H_7 := hP
    refine lv_goto (tgt := 14) hx hb dL_meanKey_8 (by decide) ?_
    refine lv_iconst (v := 0) hx hb dL_meanKey_14 (by decide) ?_
    exact W.iret (v := 0) hx hb hr (fun t ht hW => ⟨⟨0, (vf_upd f0 (0 : Int32).toNatClampNeg FP.dconst0), rfl, ⟨by simp [cd, hc0], fun _ => rfl⟩, P_at ht hP⟩, hS.F ht⟩) hS.2.2 dL_meanKey_15
