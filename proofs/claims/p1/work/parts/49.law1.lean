set_option maxRecDepth 20000 in
theorem ggL_put_X11_put : GoodIn wsL_put wsX11_put := goodIn_ca (goodIn_ca (goodIn_ca (goodIn_r _ [6, 7, 8, 9, 10, 5, 11, 12, 13, 14, 15, 16, 17, 18, 19, 20, 21, 22, 23, 24, 25, 26, 27, 28, 29, 30, 31, 32, 33, 34, 35, 36, 37, 38, 39, 40, 41, 42, 43, 44, 45, 46, 47, 48, 49, 50, 51, 52, 53, 54, 55, 56, 57, 58, 59] (by decide +kernel) (by decide +kernel)) (goodIn_sub (fun _ h => List.mem_cons_of_mem _ (List.mem_append_left _ (List.mem_append_left _ (List.mem_append_right _ h)))) (by decide +kernel))) (goodIn_sub (fun _ h => List.mem_cons_of_mem _ (List.mem_append_left _ (List.mem_append_right _ h))) (by decide +kernel))) (goodIn_sub (fun _ h => List.mem_cons_of_mem _ (List.mem_append_right _ h)) (by decide +kernel))
set_option maxRecDepth 20000 in
theorem gL_put_X11_put : GoodIn wsL_put (wsV RL 7 RX11 yX11_put wsX11_put) := goodIn_app (goodIn_of _ (by decide +kernel)) ggL_put_X11_put
theorem dL_put_0 : decode cL_put 0 = .ok (.aload 4, 2) := by decide +kernel
theorem dL_put_2 : decode cL_put 2 = .ok (.iconst 0, 1) := by decide +kernel
theorem dL_put_3 : decode cL_put 3 = .ok (.aload_n 0, 1) := by decide +kernel
theorem dL_put_4 : decode cL_put 4 = .ok (.iload_n 1, 1) := by decide +kernel
theorem dL_put_5 : decode cL_put 5 = .ok (.iload_n 2, 1) := by decide +kernel
theorem dL_put_6 : decode cL_put 6 = .ok (.iload_n 3, 1) := by decide +kernel
theorem dL_put_7 : decode cL_put 7 = .ok (.invokevirtual 7, 3) := by decide +kernel
theorem dL_put_15 : decode cL_put 15 = .ok (.astore 5, 2) := by decide +kernel
theorem dL_put_17 : decode cL_put 17 = .ok (.iconst 1, 1) := by decide +kernel
theorem dL_put_18 : decode cL_put 18 = .ok (.ireturn, 1) := by decide +kernel
theorem dL_put_19 : decode cL_put 19 = .ok (.astore 5, 2) := by decide +kernel
theorem dL_put_21 : decode cL_put 21 = .ok (.iconst 2, 1) := by decide +kernel
theorem dL_put_22 : decode cL_put 22 = .ok (.ireturn, 1) := by decide +kernel
theorem dL_put_10 : decode cL_put 10 = .ok (.i2l, 1) := by decide +kernel
theorem dL_put_11 : decode cL_put 11 = .ok (.lastore, 1) := by decide +kernel
theorem dL_put_12 : decode cL_put 12 = .ok (.goto 15, 3) := by decide +kernel
theorem dL_put_27 : decode cL_put 27 = .ok (.iconst 0, 1) := by decide +kernel
theorem dL_put_28 : decode cL_put 28 = .ok (.ireturn, 1) := by decide +kernel
set_option maxRecDepth 20000 in
theorem ggL_fill_X11_fill : GoodIn wsL_fill wsX11_fill := goodIn_ca (goodIn_ca (goodIn_ca (goodIn_r _ [6, 7, 8, 9, 10, 5, 11, 12, 13, 14, 15, 16, 17, 18, 19, 20, 21, 22, 23, 24, 25, 26, 27, 28, 29, 30, 31, 32, 33, 34, 35, 36, 37, 38, 39, 40, 41, 42, 43, 44, 45, 46, 47, 48, 49, 50, 51, 52, 53, 54, 55, 56, 57, 58, 59] (by decide +kernel) (by decide +kernel)) (goodIn_sub (fun _ h => List.mem_cons_of_mem _ (List.mem_append_left _ (List.mem_append_left _ (List.mem_append_right _ h)))) (by decide +kernel))) (goodIn_sub (fun _ h => List.mem_cons_of_mem _ (List.mem_append_left _ (List.mem_append_right _ h))) (by decide +kernel))) (goodIn_sub (fun _ h => List.mem_cons_of_mem _ (List.mem_append_right _ h)) (by decide +kernel))
set_option maxRecDepth 20000 in
theorem gL_fill_X11_fill : GoodIn wsL_fill (wsV RL 19 RX11 yX11_fill wsX11_fill) := goodIn_app (goodIn_of _ (by decide +kernel)) ggL_fill_X11_fill
theorem dL_fill_0 : decode cL_fill 0 = .ok (.aload 5, 2) := by decide +kernel
theorem dL_fill_2 : decode cL_fill 2 = .ok (.iconst 0, 1) := by decide +kernel
theorem dL_fill_3 : decode cL_fill 3 = .ok (.aload_n 0, 1) := by decide +kernel
theorem dL_fill_4 : decode cL_fill 4 = .ok (.iload_n 1, 1) := by decide +kernel
theorem dL_fill_5 : decode cL_fill 5 = .ok (.iload_n 2, 1) := by decide +kernel
theorem dL_fill_6 : decode cL_fill 6 = .ok (.iload_n 3, 1) := by decide +kernel
theorem dL_fill_7 : decode cL_fill 7 = .ok (.iload 4, 2) := by decide +kernel
theorem dL_fill_9 : decode cL_fill 9 = .ok (.invokevirtual 19, 3) := by decide +kernel
theorem dL_fill_17 : decode cL_fill 17 = .ok (.astore 6, 2) := by decide +kernel
theorem dL_fill_19 : decode cL_fill 19 = .ok (.iconst 1, 1) := by decide +kernel
theorem dL_fill_20 : decode cL_fill 20 = .ok (.ireturn, 1) := by decide +kernel
theorem dL_fill_21 : decode cL_fill 21 = .ok (.astore 6, 2) := by decide +kernel
theorem dL_fill_23 : decode cL_fill 23 = .ok (.iconst 2, 1) := by decide +kernel
theorem dL_fill_24 : decode cL_fill 24 = .ok (.ireturn, 1) := by decide +kernel
theorem dL_fill_12 : decode cL_fill 12 = .ok (.i2l, 1) := by decide +kernel
theorem dL_fill_13 : decode cL_fill 13 = .ok (.lastore, 1) := by decide +kernel
theorem dL_fill_14 : decode cL_fill 14 = .ok (.goto 15, 3) := by decide +kernel
theorem dL_fill_29 : decode cL_fill 29 = .ok (.iconst 0, 1) := by decide +kernel
theorem dL_fill_30 : decode cL_fill 30 = .ok (.ireturn, 1) := by decide +kernel
set_option maxRecDepth 20000 in
theorem ggL_scatter_X11_scatter : GoodIn wsL_scatter wsX11_scatter := goodIn_ca (goodIn_ca (goodIn_ca (goodIn_r _ [6, 7, 8, 9, 10, 11, 12, 13, 14, 15, 16, 5, 17, 18, 19, 20, 21, 22, 23, 24, 25, 26, 27, 28, 29, 30, 31, 32, 33, 34, 35, 36, 37, 38, 39, 40, 41, 42, 43, 44, 45, 46, 47, 48, 49, 50, 51, 52, 53, 54, 55, 56, 57, 58, 59, 60, 61, 62, 63] (by decide +kernel) (by decide +kernel)) (goodIn_sub (fun _ h => List.mem_cons_of_mem _ (List.mem_append_left _ (List.mem_append_left _ (List.mem_append_right _ h)))) (by decide +kernel))) (goodIn_sub (fun _ h => List.mem_cons_of_mem _ (List.mem_append_left _ (List.mem_append_right _ h))) (by decide +kernel))) (goodIn_sub (fun _ h => List.mem_cons_of_mem _ (List.mem_append_right _ h)) (by decide +kernel))
set_option maxRecDepth 20000 in
theorem gL_scatter_X11_scatter : GoodIn wsL_scatter (wsV RL 23 RX11 yX11_scatter wsX11_scatter) := goodIn_app (goodIn_of _ (by decide +kernel)) ggL_scatter_X11_scatter
theorem dL_scatter_0 : decode cL_scatter 0 = .ok (.aload 5, 2) := by decide +kernel
theorem dL_scatter_2 : decode cL_scatter 2 = .ok (.iconst 0, 1) := by decide +kernel
theorem dL_scatter_3 : decode cL_scatter 3 = .ok (.aload_n 0, 1) := by decide +kernel
theorem dL_scatter_4 : decode cL_scatter 4 = .ok (.iload_n 1, 1) := by decide +kernel
theorem dL_scatter_5 : decode cL_scatter 5 = .ok (.iload_n 2, 1) := by decide +kernel
theorem dL_scatter_6 : decode cL_scatter 6 = .ok (.iload_n 3, 1) := by decide +kernel
theorem dL_scatter_7 : decode cL_scatter 7 = .ok (.iload 4, 2) := by decide +kernel
theorem dL_scatter_9 : decode cL_scatter 9 = .ok (.invokevirtual 23, 3) := by decide +kernel
theorem dL_scatter_17 : decode cL_scatter 17 = .ok (.astore 6, 2) := by decide +kernel
theorem dL_scatter_19 : decode cL_scatter 19 = .ok (.iconst 1, 1) := by decide +kernel
theorem dL_scatter_20 : decode cL_scatter 20 = .ok (.ireturn, 1) := by decide +kernel
theorem dL_scatter_21 : decode cL_scatter 21 = .ok (.astore 6, 2) := by decide +kernel
theorem dL_scatter_23 : decode cL_scatter 23 = .ok (.iconst 2, 1) := by decide +kernel
theorem dL_scatter_24 : decode cL_scatter 24 = .ok (.ireturn, 1) := by decide +kernel
theorem dL_scatter_12 : decode cL_scatter 12 = .ok (.i2l, 1) := by decide +kernel
theorem dL_scatter_13 : decode cL_scatter 13 = .ok (.lastore, 1) := by decide +kernel
theorem dL_scatter_14 : decode cL_scatter 14 = .ok (.goto 15, 3) := by decide +kernel
theorem dL_scatter_29 : decode cL_scatter 29 = .ok (.iconst 0, 1) := by decide +kernel
theorem dL_scatter_30 : decode cL_scatter 30 = .ok (.ireturn, 1) := by decide +kernel
theorem dL_key_0 : decode cL_key 0 = .ok (.aload_n 2, 1) := by decide +kernel
theorem dL_key_1 : decode cL_key 1 = .ok (.iconst 0, 1) := by decide +kernel
theorem dL_key_2 : decode cL_key 2 = .ok (.aload_n 0, 1) := by decide +kernel
theorem dL_key_3 : decode cL_key 3 = .ok (.iload_n 1, 1) := by decide +kernel
set_option maxRecDepth 20000 in
theorem ggL_key_X11_key : GoodIn wsL_key wsX11_key := goodIn_ca (goodIn_r _ [6, 7, 8, 9, 10, 5, 11, 12, 13, 14, 15, 16, 17, 18, 19, 20, 21, 22, 23, 24, 25, 26, 27, 28, 29, 30, 31, 32, 33, 34, 35, 36, 37, 38, 39, 40] (by decide +kernel) (by decide +kernel)) (goodIn_sub (fun _ h => List.mem_cons_of_mem _ (List.mem_append_right _ h)) (by decide +kernel))
set_option maxRecDepth 20000 in
theorem gL_key_X11_key : GoodIn wsL_key (wsV RL 26 RX11 yX11_key wsX11_key) := goodIn_app (goodIn_of _ (by decide +kernel)) ggL_key_X11_key
theorem dL_key_4 : decode cL_key 4 = .ok (.invokevirtual 26, 3) := by decide +kernel
theorem dL_key_12 : decode cL_key 12 = .ok (.astore_n 3, 1) := by decide +kernel
theorem dL_key_13 : decode cL_key 13 = .ok (.iconst 1, 1) := by decide +kernel
theorem dL_key_14 : decode cL_key 14 = .ok (.ireturn, 1) := by decide +kernel
theorem dL_mark_0 : decode cL_mark 0 = .ok (.aload_n 2, 1) := by decide +kernel
theorem dL_mark_1 : decode cL_mark 1 = .ok (.iconst 0, 1) := by decide +kernel
theorem dL_mark_2 : decode cL_mark 2 = .ok (.aload_n 0, 1) := by decide +kernel
theorem dL_mark_3 : decode cL_mark 3 = .ok (.iload_n 1, 1) := by decide +kernel
set_option maxRecDepth 20000 in
theorem ggL_mark_X11_mark : GoodIn wsL_mark wsX11_mark := goodIn_ca (goodIn_r _ [6, 7, 8, 9, 10, 5, 11, 12, 13, 14, 15, 16, 17, 18, 19, 20, 21, 22, 23, 24, 25, 26, 27, 28, 29, 30, 31, 32, 33, 34, 35, 36, 37, 38, 39, 40] (by decide +kernel) (by decide +kernel)) (goodIn_sub (fun _ h => List.mem_cons_of_mem _ (List.mem_append_right _ h)) (by decide +kernel))
set_option maxRecDepth 20000 in
theorem gL_mark_X11_mark : GoodIn wsL_mark (wsV RL 30 RX11 yX11_mark wsX11_mark) := goodIn_app (goodIn_of _ (by decide +kernel)) ggL_mark_X11_mark
theorem dL_mark_4 : decode cL_mark 4 = .ok (.invokevirtual 30, 3) := by decide +kernel
theorem dL_mark_12 : decode cL_mark 12 = .ok (.astore_n 3, 1) := by decide +kernel
theorem dL_mark_13 : decode cL_mark 13 = .ok (.iconst 1, 1) := by decide +kernel
theorem dL_mark_14 : decode cL_mark 14 = .ok (.ireturn, 1) := by decide +kernel
theorem dL_length_0 : decode cL_length 0 = .ok (.aload_n 2, 1) := by decide +kernel
theorem dL_length_1 : decode cL_length 1 = .ok (.iconst 0, 1) := by decide +kernel
theorem dL_length_2 : decode cL_length 2 = .ok (.aload_n 0, 1) := by decide +kernel
theorem dL_length_3 : decode cL_length 3 = .ok (.iload_n 1, 1) := by decide +kernel
set_option maxRecDepth 20000 in
theorem ggL_length_X11_length : GoodIn wsL_length wsX11_length := goodIn_ca (goodIn_r _ [6, 7, 8, 9, 5, 10, 11, 12, 13, 14, 15, 16, 17, 18, 19, 20, 21, 22, 23, 24, 25, 26, 27, 28] (by decide +kernel) (by decide +kernel)) (goodIn_sub (fun _ h => List.mem_cons_of_mem _ (List.mem_append_right _ h)) (by decide +kernel))
set_option maxRecDepth 20000 in
theorem gL_length_X11_length : GoodIn wsL_length (wsV RL 33 RX11 yX11_length wsX11_length) := goodIn_app (goodIn_of _ (by decide +kernel)) ggL_length_X11_length
theorem dL_length_4 : decode cL_length 4 = .ok (.invokevirtual 33, 3) := by decide +kernel
theorem dL_length_12 : decode cL_length 12 = .ok (.astore_n 3, 1) := by decide +kernel
theorem dL_length_13 : decode cL_length 13 = .ok (.iconst 1, 1) := by decide +kernel
theorem dL_length_14 : decode cL_length 14 = .ok (.ireturn, 1) := by decide +kernel
theorem dL_length_7 : decode cL_length 7 = .ok (.i2l, 1) := by decide +kernel
theorem dL_length_8 : decode cL_length 8 = .ok (.lastore, 1) := by decide +kernel
theorem dL_length_9 : decode cL_length 9 = .ok (.goto 6, 3) := by decide +kernel
theorem dL_length_15 : decode cL_length 15 = .ok (.iconst 0, 1) := by decide +kernel
theorem dL_length_16 : decode cL_length 16 = .ok (.ireturn, 1) := by decide +kernel
theorem dL_at_0 : decode cL_at 0 = .ok (.aload_n 3, 1) := by decide +kernel
theorem dL_at_1 : decode cL_at 1 = .ok (.iconst 0, 1) := by decide +kernel
theorem dL_at_2 : decode cL_at 2 = .ok (.aload_n 0, 1) := by decide +kernel
theorem dL_at_3 : decode cL_at 3 = .ok (.iload_n 1, 1) := by decide +kernel
theorem dL_at_4 : decode cL_at 4 = .ok (.iload_n 2, 1) := by decide +kernel
set_option maxRecDepth 20000 in
theorem ggL_at_X11_at : GoodIn wsL_at wsX11_at := goodIn_ca (goodIn_r _ [6, 7, 8, 9, 10, 11, 5, 12, 13, 14, 15, 16, 17, 18, 19, 20, 21, 22, 23, 24, 25, 26, 27, 28, 29, 30, 31, 32, 33, 34, 35] (by decide +kernel) (by decide +kernel)) (goodIn_sub (fun _ h => List.mem_cons_of_mem _ (List.mem_append_right _ h)) (by decide +kernel))
set_option maxRecDepth 20000 in
theorem gL_at_X11_at : GoodIn wsL_at (wsV RL 36 RX11 yX11_at wsX11_at) := goodIn_app (goodIn_of _ (by decide +kernel)) ggL_at_X11_at
theorem dL_at_5 : decode cL_at 5 = .ok (.invokevirtual 36, 3) := by decide +kernel
theorem dL_at_13 : decode cL_at 13 = .ok (.astore 4, 2) := by decide +kernel
theorem dL_at_15 : decode cL_at 15 = .ok (.iconst 1, 1) := by decide +kernel
theorem dL_at_16 : decode cL_at 16 = .ok (.ireturn, 1) := by decide +kernel
theorem dL_digest_0 : decode cL_digest 0 = .ok (.aload_n 2, 1) := by decide +kernel
theorem dL_digest_1 : decode cL_digest 1 = .ok (.iconst 0, 1) := by decide +kernel
theorem dL_digest_2 : decode cL_digest 2 = .ok (.aload_n 0, 1) := by decide +kernel
theorem dL_digest_3 : decode cL_digest 3 = .ok (.iload_n 1, 1) := by decide +kernel
set_option maxRecDepth 20000 in
theorem ggL_digest_X11_digest : GoodIn wsL_digest wsX11_digest := goodIn_ca (goodIn_r _ [6, 7, 8, 9, 5, 10, 11, 12, 13, 14, 15, 16, 17, 18, 19, 20, 21, 22, 23, 24, 25, 26, 27, 28, 29, 30, 31, 32, 33, 34, 35] (by decide +kernel) (by decide +kernel)) (goodIn_sub (fun _ h => List.mem_cons_of_mem _ (List.mem_append_right _ h)) (by decide +kernel))
set_option maxRecDepth 20000 in
theorem gL_digest_X11_digest : GoodIn wsL_digest (wsV RL 40 RX11 yX11_digest wsX11_digest) := goodIn_app (goodIn_of _ (by decide +kernel)) ggL_digest_X11_digest
theorem dL_digest_4 : decode cL_digest 4 = .ok (.invokevirtual 40, 3) := by decide +kernel
theorem dL_digest_12 : decode cL_digest 12 = .ok (.astore_n 3, 1) := by decide +kernel
theorem dL_digest_13 : decode cL_digest 13 = .ok (.iconst 1, 1) := by decide +kernel
theorem dL_digest_14 : decode cL_digest 14 = .ok (.ireturn, 1) := by decide +kernel
theorem dL_digest_7 : decode cL_digest 7 = .ok (.i2l, 1) := by decide +kernel
theorem dL_digest_8 : decode cL_digest 8 = .ok (.lastore, 1) := by decide +kernel
theorem dL_digest_9 : decode cL_digest 9 = .ok (.goto 6, 3) := by decide +kernel
theorem dL_digest_15 : decode cL_digest 15 = .ok (.iconst 0, 1) := by decide +kernel
theorem dL_digest_16 : decode cL_digest 16 = .ok (.ireturn, 1) := by decide +kernel
set_option maxRecDepth 20000 in
theorem ggL_isSorted_X11_isSorted : GoodIn wsL_isSorted wsX11_isSorted := goodIn_ca (goodIn_ca (goodIn_r _ [6, 7, 8, 9, 10, 5, 11, 12, 13, 14, 15, 16, 17, 18, 19, 20, 21, 22, 23, 24, 25, 26, 27, 28, 29, 30, 31, 32, 33, 34, 35, 36, 37, 38, 39, 40, 41, 42, 43, 44, 45, 46, 47, 48, 49, 50, 51, 52, 53, 54, 55] (by decide +kernel) (by decide +kernel)) (goodIn_sub (fun _ h => List.mem_cons_of_mem _ (List.mem_append_left _ (List.mem_append_right _ h))) (by decide +kernel))) (goodIn_sub (fun _ h => List.mem_cons_of_mem _ (List.mem_append_right _ h)) (by decide +kernel))
set_option maxRecDepth 20000 in
theorem gL_isSorted_X11_isSorted : GoodIn wsL_isSorted (wsV RL 43 RX11 yX11_isSorted wsX11_isSorted) := goodIn_app (goodIn_of _ (by decide +kernel)) ggL_isSorted_X11_isSorted
theorem dL_isSorted_0 : decode cL_isSorted 0 = .ok (.aload_n 3, 1) := by decide +kernel
theorem dL_isSorted_1 : decode cL_isSorted 1 = .ok (.iconst 0, 1) := by decide +kernel
theorem dL_isSorted_2 : decode cL_isSorted 2 = .ok (.aload_n 0, 1) := by decide +kernel
theorem dL_isSorted_3 : decode cL_isSorted 3 = .ok (.iload_n 1, 1) := by decide +kernel
theorem dL_isSorted_4 : decode cL_isSorted 4 = .ok (.iload_n 2, 1) := by decide +kernel
theorem dL_isSorted_5 : decode cL_isSorted 5 = .ok (.invokevirtual 43, 3) := by decide +kernel
theorem dL_isSorted_20 : decode cL_isSorted 20 = .ok (.astore 4, 2) := by decide +kernel
theorem dL_isSorted_22 : decode cL_isSorted 22 = .ok (.iconst 1, 1) := by decide +kernel
theorem dL_isSorted_23 : decode cL_isSorted 23 = .ok (.ireturn, 1) := by decide +kernel
theorem dL_isSorted_24 : decode cL_isSorted 24 = .ok (.astore 4, 2) := by decide +kernel
theorem dL_isSorted_26 : decode cL_isSorted 26 = .ok (.iconst 2, 1) := by decide +kernel
theorem dL_isSorted_27 : decode cL_isSorted 27 = .ok (.ireturn, 1) := by decide +kernel
theorem dL_isSorted_8 : decode cL_isSorted 8 = .ok (.ifCond .eq 7, 3) := by decide +kernel
theorem dL_isSorted_11 : decode cL_isSorted 11 = .ok (.lconst 1, 1) := by decide +kernel
theorem dL_isSorted_12 : decode cL_isSorted 12 = .ok (.goto 4, 3) := by decide +kernel
theorem dL_isSorted_16 : decode cL_isSorted 16 = .ok (.lastore, 1) := by decide +kernel
theorem dL_isSorted_17 : decode cL_isSorted 17 = .ok (.goto 11, 3) := by decide +kernel
theorem dL_isSorted_28 : decode cL_isSorted 28 = .ok (.iconst 0, 1) := by decide +kernel
theorem dL_isSorted_29 : decode cL_isSorted 29 = .ok (.ireturn, 1) := by decide +kernel
theorem dL_clear_0 : decode cL_clear 0 = .ok (.aload_n 2, 1) := by decide +kernel
theorem dL_clear_1 : decode cL_clear 1 = .ok (.iconst 0, 1) := by decide +kernel
theorem dL_clear_2 : decode cL_clear 2 = .ok (.aload_n 0, 1) := by decide +kernel
theorem dL_clear_3 : decode cL_clear 3 = .ok (.iload_n 1, 1) := by decide +kernel
set_option maxRecDepth 20000 in
theorem ggL_clear_X11_clear : GoodIn wsL_clear wsX11_clear := goodIn_ca (goodIn_r _ [6, 7, 8, 9, 5, 10, 11, 12, 13, 14, 15, 16, 17, 18, 19, 20, 21, 22, 23, 24, 25, 26, 27, 28, 29, 30, 31, 32, 33, 34] (by decide +kernel) (by decide +kernel)) (goodIn_sub (fun _ h => List.mem_cons_of_mem _ (List.mem_append_right _ h)) (by decide +kernel))
set_option maxRecDepth 20000 in
theorem gL_clear_X11_clear : GoodIn wsL_clear (wsV RL 47 RX11 yX11_clear wsX11_clear) := goodIn_app (goodIn_of _ (by decide +kernel)) ggL_clear_X11_clear
theorem dL_clear_4 : decode cL_clear 4 = .ok (.invokevirtual 47, 3) := by decide +kernel
theorem dL_clear_12 : decode cL_clear 12 = .ok (.astore_n 3, 1) := by decide +kernel
theorem dL_clear_13 : decode cL_clear 13 = .ok (.iconst 1, 1) := by decide +kernel
theorem dL_clear_14 : decode cL_clear 14 = .ok (.ireturn, 1) := by decide +kernel
theorem dL_clear_7 : decode cL_clear 7 = .ok (.i2l, 1) := by decide +kernel
theorem dL_clear_8 : decode cL_clear 8 = .ok (.lastore, 1) := by decide +kernel
theorem dL_clear_9 : decode cL_clear 9 = .ok (.goto 6, 3) := by decide +kernel
theorem dL_clear_15 : decode cL_clear 15 = .ok (.iconst 0, 1) := by decide +kernel
theorem dL_clear_16 : decode cL_clear 16 = .ok (.ireturn, 1) := by decide +kernel
theorem dL_copy_0 : decode cL_copy 0 = .ok (.aload_n 3, 1) := by decide +kernel
theorem dL_copy_1 : decode cL_copy 1 = .ok (.iconst 0, 1) := by decide +kernel
theorem dL_copy_2 : decode cL_copy 2 = .ok (.aload_n 0, 1) := by decide +kernel
theorem dL_copy_3 : decode cL_copy 3 = .ok (.iload_n 1, 1) := by decide +kernel
theorem dL_copy_4 : decode cL_copy 4 = .ok (.iload_n 2, 1) := by decide +kernel
set_option maxRecDepth 20000 in
theorem ggL_copy_X11_copy : GoodIn wsL_copy wsX11_copy := goodIn_ca (goodIn_r _ [6, 7, 8, 9, 5, 10, 11, 12, 13, 14, 15, 16, 17, 18, 19, 20, 21, 22, 23, 24, 25, 26, 27, 28, 29, 30, 31, 32, 33, 34, 35, 36, 37, 38, 39] (by decide +kernel) (by decide +kernel)) (goodIn_sub (fun _ h => List.mem_cons_of_mem _ (List.mem_append_right _ h)) (by decide +kernel))
set_option maxRecDepth 20000 in
theorem gL_copy_X11_copy : GoodIn wsL_copy (wsV RL 50 RX11 yX11_copy wsX11_copy) := goodIn_app (goodIn_of _ (by decide +kernel)) ggL_copy_X11_copy
theorem dL_copy_5 : decode cL_copy 5 = .ok (.invokevirtual 50, 3) := by decide +kernel
theorem dL_copy_13 : decode cL_copy 13 = .ok (.astore 4, 2) := by decide +kernel
theorem dL_copy_15 : decode cL_copy 15 = .ok (.iconst 1, 1) := by decide +kernel
theorem dL_copy_16 : decode cL_copy 16 = .ok (.ireturn, 1) := by decide +kernel
theorem dL_copy_8 : decode cL_copy 8 = .ok (.i2l, 1) := by decide +kernel
theorem dL_copy_9 : decode cL_copy 9 = .ok (.lastore, 1) := by decide +kernel
theorem dL_copy_10 : decode cL_copy 10 = .ok (.goto 7, 3) := by decide +kernel
theorem dL_copy_17 : decode cL_copy 17 = .ok (.iconst 0, 1) := by decide +kernel
theorem dL_copy_18 : decode cL_copy 18 = .ok (.ireturn, 1) := by decide +kernel
theorem dL_turn_0 : decode cL_turn 0 = .ok (.aload_n 2, 1) := by decide +kernel
theorem dL_turn_1 : decode cL_turn 1 = .ok (.iconst 0, 1) := by decide +kernel
theorem dL_turn_2 : decode cL_turn 2 = .ok (.aload_n 0, 1) := by decide +kernel
theorem dL_turn_3 : decode cL_turn 3 = .ok (.iload_n 1, 1) := by decide +kernel
set_option maxRecDepth 20000 in
theorem ggL_turn_X11_turn : GoodIn wsL_turn wsX11_turn := goodIn_ca (goodIn_r _ [6, 7, 8, 9, 5, 10, 11, 12, 13, 14, 15, 16, 17, 18, 19, 20, 21, 22, 23, 24, 25, 26, 27, 28, 29, 30, 31, 32, 33, 34, 35, 36, 37, 38, 39] (by decide +kernel) (by decide +kernel)) (goodIn_sub (fun _ h => List.mem_cons_of_mem _ (List.mem_append_right _ h)) (by decide +kernel))
set_option maxRecDepth 20000 in
theorem gL_turn_X11_turn : GoodIn wsL_turn (wsV RL 53 RX11 yX11_turn wsX11_turn) := goodIn_app (goodIn_of _ (by decide +kernel)) ggL_turn_X11_turn
theorem dL_turn_4 : decode cL_turn 4 = .ok (.invokevirtual 53, 3) := by decide +kernel
theorem dL_turn_12 : decode cL_turn 12 = .ok (.astore_n 3, 1) := by decide +kernel
theorem dL_turn_13 : decode cL_turn 13 = .ok (.iconst 1, 1) := by decide +kernel
theorem dL_turn_14 : decode cL_turn 14 = .ok (.ireturn, 1) := by decide +kernel
theorem dL_turn_7 : decode cL_turn 7 = .ok (.i2l, 1) := by decide +kernel
theorem dL_turn_8 : decode cL_turn 8 = .ok (.lastore, 1) := by decide +kernel
theorem dL_turn_9 : decode cL_turn 9 = .ok (.goto 6, 3) := by decide +kernel
theorem dL_turn_15 : decode cL_turn 15 = .ok (.iconst 0, 1) := by decide +kernel
theorem dL_turn_16 : decode cL_turn 16 = .ok (.ireturn, 1) := by decide +kernel
theorem dL_setRuns_0 : decode cL_setRuns 0 = .ok (.aload 4, 2) := by decide +kernel
theorem dL_setRuns_2 : decode cL_setRuns 2 = .ok (.iconst 0, 1) := by decide +kernel
theorem dL_setRuns_3 : decode cL_setRuns 3 = .ok (.aload_n 0, 1) := by decide +kernel
theorem dL_setRuns_4 : decode cL_setRuns 4 = .ok (.iload_n 1, 1) := by decide +kernel
theorem dL_setRuns_5 : decode cL_setRuns 5 = .ok (.iload_n 2, 1) := by decide +kernel
theorem dL_setRuns_6 : decode cL_setRuns 6 = .ok (.iload_n 3, 1) := by decide +kernel
set_option maxRecDepth 20000 in
theorem ggL_setRuns_X11_setRuns : GoodIn wsL_setRuns wsX11_setRuns := goodIn_ca (goodIn_r _ [6, 7, 8, 9, 10, 5, 11, 12, 13, 14, 15, 16, 17, 18, 19, 20, 21, 22, 23, 24, 25, 26, 27, 28, 29, 30, 31] (by decide +kernel) (by decide +kernel)) (goodIn_sub (fun _ h => List.mem_cons_of_mem _ (List.mem_append_right _ h)) (by decide +kernel))
set_option maxRecDepth 20000 in
theorem gL_setRuns_X11_setRuns : GoodIn wsL_setRuns (wsV RL 56 RX11 yX11_setRuns wsX11_setRuns) := goodIn_app (goodIn_of _ (by decide +kernel)) ggL_setRuns_X11_setRuns
theorem dL_setRuns_7 : decode cL_setRuns 7 = .ok (.invokevirtual 56, 3) := by decide +kernel
theorem dL_setRuns_15 : decode cL_setRuns 15 = .ok (.astore 5, 2) := by decide +kernel
theorem dL_setRuns_17 : decode cL_setRuns 17 = .ok (.iconst 1, 1) := by decide +kernel
theorem dL_setRuns_18 : decode cL_setRuns 18 = .ok (.ireturn, 1) := by decide +kernel
theorem dL_setRuns_10 : decode cL_setRuns 10 = .ok (.i2l, 1) := by decide +kernel
theorem dL_setRuns_11 : decode cL_setRuns 11 = .ok (.lastore, 1) := by decide +kernel
theorem dL_setRuns_12 : decode cL_setRuns 12 = .ok (.goto 7, 3) := by decide +kernel
theorem dL_setRuns_19 : decode cL_setRuns 19 = .ok (.iconst 0, 1) := by decide +kernel
theorem dL_setRuns_20 : decode cL_setRuns 20 = .ok (.ireturn, 1) := by decide +kernel
theorem dL_setMerge_0 : decode cL_setMerge 0 = .ok (.aload_n 3, 1) := by decide +kernel
theorem dL_setMerge_1 : decode cL_setMerge 1 = .ok (.iconst 0, 1) := by decide +kernel
theorem dL_setMerge_2 : decode cL_setMerge 2 = .ok (.aload_n 0, 1) := by decide +kernel
theorem dL_setMerge_3 : decode cL_setMerge 3 = .ok (.iload_n 1, 1) := by decide +kernel
theorem dL_setMerge_4 : decode cL_setMerge 4 = .ok (.iload_n 2, 1) := by decide +kernel
set_option maxRecDepth 20000 in
theorem ggL_setMerge_X11_setMerge : GoodIn wsL_setMerge wsX11_setMerge := goodIn_ca (goodIn_r _ [6, 7, 8, 9, 10, 5, 11, 12, 13, 14, 15, 16, 17, 18, 19, 20, 21, 22, 23, 24, 25, 26, 27, 28, 29, 30, 31] (by decide +kernel) (by decide +kernel)) (goodIn_sub (fun _ h => List.mem_cons_of_mem _ (List.mem_append_right _ h)) (by decide +kernel))
set_option maxRecDepth 20000 in
theorem gL_setMerge_X11_setMerge : GoodIn wsL_setMerge (wsV RL 59 RX11 yX11_setMerge wsX11_setMerge) := goodIn_app (goodIn_of _ (by decide +kernel)) ggL_setMerge_X11_setMerge
theorem dL_setMerge_5 : decode cL_setMerge 5 = .ok (.invokevirtual 59, 3) := by decide +kernel
theorem dL_setMerge_13 : decode cL_setMerge 13 = .ok (.astore 4, 2) := by decide +kernel
theorem dL_setMerge_15 : decode cL_setMerge 15 = .ok (.iconst 1, 1) := by decide +kernel
theorem dL_setMerge_16 : decode cL_setMerge 16 = .ok (.ireturn, 1) := by decide +kernel
theorem dL_setMerge_8 : decode cL_setMerge 8 = .ok (.i2l, 1) := by decide +kernel
theorem dL_setMerge_9 : decode cL_setMerge 9 = .ok (.lastore, 1) := by decide +kernel
theorem dL_setMerge_10 : decode cL_setMerge 10 = .ok (.goto 7, 3) := by decide +kernel
theorem dL_setMerge_17 : decode cL_setMerge 17 = .ok (.iconst 0, 1) := by decide +kernel
theorem dL_setMerge_18 : decode cL_setMerge 18 = .ok (.ireturn, 1) := by decide +kernel
theorem dL_setting_0 : decode cL_setting 0 = .ok (.aload_n 2, 1) := by decide +kernel
theorem dL_setting_1 : decode cL_setting 1 = .ok (.iconst 0, 1) := by decide +kernel
theorem dL_setting_2 : decode cL_setting 2 = .ok (.aload_n 0, 1) := by decide +kernel
theorem dL_setting_3 : decode cL_setting 3 = .ok (.iload_n 1, 1) := by decide +kernel
set_option maxRecDepth 20000 in
theorem ggL_setting_X11_setting : GoodIn wsL_setting wsX11_setting := goodIn_ca (goodIn_r _ [6, 7, 8, 9, 10, 11, 12, 13, 14, 15, 16, 17, 18, 19, 20, 21, 22, 23, 24, 25, 26, 27] (by decide +kernel) (by decide +kernel)) (goodIn_sub (fun _ h => List.mem_cons_of_mem _ (List.mem_append_right _ h)) (by decide +kernel))
set_option maxRecDepth 20000 in
theorem gL_setting_X11_setting : GoodIn wsL_setting (wsV RL 62 RX11 yX11_setting wsX11_setting) := goodIn_app (goodIn_of _ (by decide +kernel)) ggL_setting_X11_setting
theorem dL_setting_4 : decode cL_setting 4 = .ok (.invokevirtual 62, 3) := by decide +kernel
theorem dL_setting_12 : decode cL_setting 12 = .ok (.astore_n 3, 1) := by decide +kernel
theorem dL_setting_13 : decode cL_setting 13 = .ok (.iconst 1, 1) := by decide +kernel
theorem dL_setting_14 : decode cL_setting 14 = .ok (.ireturn, 1) := by decide +kernel
theorem dL_setting_7 : decode cL_setting 7 = .ok (.i2l, 1) := by decide +kernel
theorem dL_setting_8 : decode cL_setting 8 = .ok (.lastore, 1) := by decide +kernel
theorem dL_setting_9 : decode cL_setting 9 = .ok (.goto 6, 3) := by decide +kernel
theorem dL_setting_15 : decode cL_setting 15 = .ok (.iconst 0, 1) := by decide +kernel
theorem dL_setting_16 : decode cL_setting 16 = .ok (.ireturn, 1) := by decide +kernel
theorem dL_runs_0 : decode cL_runs 0 = .ok (.aload_n 2, 1) := by decide +kernel
theorem dL_runs_1 : decode cL_runs 1 = .ok (.iconst 0, 1) := by decide +kernel
theorem dL_runs_2 : decode cL_runs 2 = .ok (.aload_n 0, 1) := by decide +kernel
theorem dL_runs_3 : decode cL_runs 3 = .ok (.iload_n 1, 1) := by decide +kernel
set_option maxRecDepth 20000 in
theorem ggL_runs_X11_runs : GoodIn wsL_runs wsX11_runs := goodIn_ca (goodIn_r _ [6, 7, 8, 9, 10, 11, 12, 13, 5, 14, 15, 16, 17, 18, 19, 20, 21, 22, 23, 24, 25, 26, 27, 28, 29, 30, 31, 32, 33, 34, 35, 36, 37, 38, 39, 40, 41, 42, 43, 44, 45, 46, 47, 48, 49, 50, 51, 52, 53, 54, 55, 56, 57, 58, 59, 60, 61, 62, 63, 64, 65, 66, 67, 68, 69, 70, 71, 72, 73, 74, 75, 76, 77, 78, 79, 80, 81, 82, 83, 84, 85, 86, 87, 88, 89, 90, 91, 92, 93, 94, 95, 96, 97, 98, 99, 100, 101, 102, 103, 104, 105, 106, 107, 108, 109, 110, 111, 112, 113, 114, 115, 116, 117, 118, 119, 120, 121, 122] (by decide +kernel) (by decide +kernel)) (goodIn_sub (fun _ h => List.mem_cons_of_mem _ (List.mem_append_right _ h)) (by decide +kernel))
set_option maxRecDepth 20000 in
theorem gL_runs_X11_runs : GoodIn wsL_runs (wsV RL 65 RX11 yX11_runs wsX11_runs) := goodIn_app (goodIn_of _ (by decide +kernel)) ggL_runs_X11_runs
theorem dL_runs_4 : decode cL_runs 4 = .ok (.invokevirtual 65, 3) := by decide +kernel
theorem dL_runs_12 : decode cL_runs 12 = .ok (.astore_n 3, 1) := by decide +kernel
theorem dL_runs_13 : decode cL_runs 13 = .ok (.iconst 1, 1) := by decide +kernel
theorem dL_runs_14 : decode cL_runs 14 = .ok (.ireturn, 1) := by decide +kernel
theorem dL_runs_7 : decode cL_runs 7 = .ok (.i2l, 1) := by decide +kernel
theorem dL_runs_8 : decode cL_runs 8 = .ok (.lastore, 1) := by decide +kernel
theorem dL_runs_9 : decode cL_runs 9 = .ok (.goto 6, 3) := by decide +kernel
theorem dL_runs_15 : decode cL_runs 15 = .ok (.iconst 0, 1) := by decide +kernel
theorem dL_runs_16 : decode cL_runs 16 = .ok (.ireturn, 1) := by decide +kernel
theorem dL_runLength_0 : decode cL_runLength 0 = .ok (.aload_n 3, 1) := by decide +kernel
theorem dL_runLength_1 : decode cL_runLength 1 = .ok (.iconst 0, 1) := by decide +kernel
theorem dL_runLength_2 : decode cL_runLength 2 = .ok (.aload_n 0, 1) := by decide +kernel
theorem dL_runLength_3 : decode cL_runLength 3 = .ok (.iload_n 1, 1) := by decide +kernel
theorem dL_runLength_4 : decode cL_runLength 4 = .ok (.iload_n 2, 1) := by decide +kernel
set_option maxRecDepth 20000 in
theorem ggL_runLength_X11_runLength : GoodIn wsL_runLength wsX11_runLength := goodIn_ca (goodIn_r _ [6, 7, 8, 9, 10, 5, 11, 12, 13, 14, 15, 16, 17, 18, 19, 20, 21, 22, 23, 24, 25, 26, 27, 28, 29, 30, 31, 32, 33, 34, 35, 36, 37, 38, 39, 40, 41, 42, 43, 44, 45, 46, 47, 48, 49, 50, 51, 52, 53, 54, 55, 56, 57, 58, 59, 60, 61, 62, 63, 64, 65, 66, 67, 68, 69, 70, 71, 72, 73, 74, 75, 76, 77, 78, 79, 80, 81, 82, 83, 84, 85, 86, 87, 88, 89, 90, 91, 92, 93, 94, 95, 96, 97, 98, 99, 100, 101, 102, 103, 104, 105, 106, 107, 108, 109, 110, 111, 112, 113, 114, 115, 116, 117, 118, 119, 120, 121, 122, 123, 124, 125, 126, 127, 128, 129, 130] (by decide +kernel) (by decide +kernel)) (goodIn_sub (fun _ h => List.mem_cons_of_mem _ (List.mem_append_right _ h)) (by decide +kernel))
set_option maxRecDepth 20000 in
theorem gL_runLength_X11_runLength : GoodIn wsL_runLength (wsV RL 68 RX11 yX11_runLength wsX11_runLength) := goodIn_app (goodIn_of _ (by decide +kernel)) ggL_runLength_X11_runLength
theorem dL_runLength_5 : decode cL_runLength 5 = .ok (.invokevirtual 68, 3) := by decide +kernel
theorem dL_runLength_13 : decode cL_runLength 13 = .ok (.astore 4, 2) := by decide +kernel
theorem dL_runLength_15 : decode cL_runLength 15 = .ok (.iconst 1, 1) := by decide +kernel
theorem dL_runLength_16 : decode cL_runLength 16 = .ok (.ireturn, 1) := by decide +kernel
theorem dL_runAt_0 : decode cL_runAt 0 = .ok (.aload 4, 2) := by decide +kernel
theorem dL_runAt_2 : decode cL_runAt 2 = .ok (.iconst 0, 1) := by decide +kernel
theorem dL_runAt_3 : decode cL_runAt 3 = .ok (.aload_n 0, 1) := by decide +kernel
theorem dL_runAt_4 : decode cL_runAt 4 = .ok (.iload_n 1, 1) := by decide +kernel
theorem dL_runAt_5 : decode cL_runAt 5 = .ok (.iload_n 2, 1) := by decide +kernel
theorem dL_runAt_6 : decode cL_runAt 6 = .ok (.iload_n 3, 1) := by decide +kernel
set_option maxRecDepth 20000 in
theorem ggL_runAt_X11_runAt : GoodIn wsL_runAt wsX11_runAt := goodIn_ca (goodIn_r _ [6, 7, 8, 9, 10, 11, 12, 5, 13, 14, 15, 16, 17, 18, 19, 20, 21, 22, 23, 24, 25, 26, 27, 28, 29, 30, 31, 32, 33, 34, 35, 36, 37, 38, 39, 40, 41, 42, 43, 44, 45, 46, 47, 48, 49, 50, 51, 52, 53, 54, 55, 56, 57, 58, 59, 60, 61, 62, 63, 64, 65, 66, 67, 68, 69, 70, 71, 72, 73, 74, 75, 76, 77, 78, 79, 80, 81, 82, 83, 84, 85, 86, 87, 88, 89, 90, 91, 92, 93, 94, 95, 96, 97, 98, 99, 100, 101, 102, 103, 104, 105, 106, 107, 108, 109, 110, 111, 112, 113, 114, 115, 116, 117, 118, 119, 120, 121, 122, 123, 124, 125, 126, 127, 128, 129, 130, 131, 132, 133, 134, 135, 136, 137] (by decide +kernel) (by decide +kernel)) (goodIn_sub (fun _ h => List.mem_cons_of_mem _ (List.mem_append_right _ h)) (by decide +kernel))
set_option maxRecDepth 20000 in
theorem gL_runAt_X11_runAt : GoodIn wsL_runAt (wsV RL 71 RX11 yX11_runAt wsX11_runAt) := goodIn_app (goodIn_of _ (by decide +kernel)) ggL_runAt_X11_runAt
theorem dL_runAt_7 : decode cL_runAt 7 = .ok (.invokevirtual 71, 3) := by decide +kernel
theorem dL_runAt_15 : decode cL_runAt 15 = .ok (.astore 5, 2) := by decide +kernel
theorem dL_runAt_17 : decode cL_runAt 17 = .ok (.iconst 1, 1) := by decide +kernel
theorem dL_runAt_18 : decode cL_runAt 18 = .ok (.ireturn, 1) := by decide +kernel
theorem mt_ofWH {l : Launch} {y : MethodName} {ws ws' : List Cond} {rm : Room} {Pc : Array Value → State → Prop} {Qc : Array Value → State → Outcome → State → Prop} {mc ms : Nat} {free : Addr → Prop} {cc : ByteArray} {maxL : Nat} {ret : Option FieldType} {hh : List (Nat × Nat × Nat × Nat)}
    (hy : plainName y.cls = true) (hw : ws = Cond.codeWith y cc maxL ret hh :: ws')
    (body : ∀ p e s m args below meth c s₁, BodyLoose p l y (headSpec ws rm) cc maxL ret e s m args below meth c s₁ → c.maxLocals = maxL → Pc args s →
      W p l e (headSpec ws rm).room s m args below meth c s.heap [] 0 0 (MQ below Qc args s mc ms free) (entryFrame m args maxL)) : Met l y ws rm Pc Qc mc ms free := by
  refine MetFree.of_bodyS (code := cc) (maxLocals := maxL) (ret := ret) hy ?_ ?_
  · intro args s m h hn
    obtain ⟨m9, meth, c, hn9, h1, h2, h3, h4, -, h5, h6, -⟩ := Cond.codeWith_spec (atoms_spec (ws := ws) h _ (by rw [hw]; exact List.mem_cons_self))
    cases hn.symm.trans hn9
    exact ⟨meth, c, h1, h2, h3, h4, h5, h6⟩
  · intro p e s m args below meth c s₁ B hml hP _
    have hh0 : s₁.heap = s.heap := by rw [B.state]; rfl
    obtain ⟨t, a1, o, b1, b2, b3⟩ := body p e s m args below meth c s₁ B hml hP s₁ hh0 (Stand.of_body B)
    exact ⟨t, o, a1, b1, b2, ⟨b3.1, b3.2⟩⟩
noncomputable def wsL_put2 : List Cond := .codeWith yL_put cL_put 6 (some .int) [(0, 12, 15, 13), (0, 12, 19, 15), (0, 12, 23, 17)] :: (wsL_put ++ [.classLink RL 15 "java/lang/IllegalArgumentException"])
theorem gL2_put : GoodIn wsL_put2 (wsV RL 7 RX11 yX11_put wsX11_put) := fun w h => ⟨List.mem_cons_of_mem _ (List.mem_append_left _ (gL_put_X11_put w h).1), (gL_put_X11_put w h).2⟩
set_option maxHeartbeats 4000000 in
set_option maxRecDepth 100000 in
theorem c_L_put (l : Launch) (hlf : l.stackTraces = false) (dC : Nat → ClassId) (dI : Nat → Nat → Nat) (g : Nat → ClassId) (a : Nat → Nat) (x : Int32) (ky : Int32) (mk : Int32) (ou : Nat) (f0 : Nat → Int64) (sz : Nat) : Met l yL_put wsL_put2 ({ frames := 8, cells := 8, slots := 48, locals := 130 }) (va_Pc [.ref (a 0), .int x, .int ky, .int mk, .ref ou] (PG (dC, dI) g (offW a g ++ [(ou, .inl (g 2, 1, .inr (.inl f0)))]) sz)) (va_Qi (fun (r : Int32) (fz : Nat → Int64) => r = (cd (TOKb x) (rngb ky (-999) 999 && rngb mk 0 9999) true) ∧ ((cd (TOKb x) (rngb ky (-999) 999 && rngb mk 0 9999) true) = 0 → fz 0 = (0 : Int32).toInt64)) (fun (fz : Nat → Int64) t => va_P (dC, dI) vwCl [(ou, .inl (g 2, 1, .inr (.inl fz)))] t.heap) (va_A (offW a g ++ [(ou, .inl (g 2, 1, .inr (.inl f0)))]) sz)) 8 48 (va_A (offW a g ++ [(ou, .inl (g 2, 1, .inr (.inl f0)))]) sz) := by
  refine mt_ofWH (cc := cL_put) (maxL := 6) (ret := (some .int)) (by decide) rfl ?_
  intro p e s m args below meth c s₁ B hml hv
  obtain ⟨rfl, hsz, hP, hK, hD0, hG⟩ := hv
  have hx := B.exec
  have hb := B.bytes
  have hr := B.returns
  have hts := atoms_spec (ws := wsL_put2) B.pre
  have hown : s.vm.findClass RL = some m.cls := findClass_of_methodNamed B.named
  have hlocks := B.notSynchronized
  have hTab := vx_table (x := yL_put) B (hts (Cond.codeWith yL_put cL_put 6 (some .int) [(0, 12, 15, 13), (0, 12, 19, 15), (0, 12, 23, 17)]) (List.mem_cons_self))
  subst hsz
  have hD := hD0.self (sz := s.heap.size)
  generalize hAe : va_A (offW a g ++ [(ou, .inl (g 2, 1, .inr (.inl f0)))]) s.heap.size = A at hD hG ⊢
  have hA : ∀ q : Nat, s.heap.size ≤ q → A q := fun q h => by rw [← hAe]; exact Or.inr h
  have hS : va_S A s.heap s.heap [] := va_S.rf
  have hl := lv_entry ([.ref (a 0), .int x, .int ky, .int mk, .ref ou]) (n := 6) (Nat.le_of_ble_eq_true rfl)
  rw [lg_entry_eq]
  generalize (lg_sl ([.ref (a 0), .int x, .int ky, .int mk, .ref ou]) ++ List.replicate (6 - (lg_sl ([.ref (a 0), .int x, .int ky, .int mk, .ref ou])).length) Slot.unset).toArray = ls at hl ⊢
  have hl : lv_has ls 6 [(0, .ref (a 0)), (1, .int x), (2, .int ky), (3, .int mk), (4, .ref ou)] := hl
  have hxl0 := hts (Cond.classLink RL 13 "java/lang/IndexOutOfBoundsException") (by decide +kernel)
  have hxl1 := hts (Cond.classLink RL 15 "java/lang/IllegalArgumentException") (by decide +kernel)
  refine lv_aload hx hb dL_put_0 (lv_at hl 4 rfl) ?_
  refine lv_iconst (v := 0) hx hb dL_put_2 (by decide) ?_
  refine lv_aload_n hx hb dL_put_3 rfl (lv_at hl 0 rfl) ?_
  refine lv_iload_n hx hb dL_put_4 rfl (lv_at hl 1 rfl) ?_
  refine lv_iload_n hx hb dL_put_5 rfl (lv_at hl 2 rfl) ?_
  refine lv_iload_n hx hb dL_put_6 rfl (lv_at hl 3 rfl) ?_
  have hDc := D_l hD
  have hPc := P_l hP
  have hFc : ∀ q, va_A (offW a g) s.heap.size q → A q := A_all hDc hA hS.1
  refine vx_calli (vx_runV (As := [.int x, .int ky, .int mk]) (rest := [.int 0, .ref ou]) ⟨hx, hb, hml, hown, hts⟩ (c_X11_put l hlf dC dI g a x ky mk s.heap.size) (cwV 3 hts gL2_put rfl rfl rfl (by decide +kernel) ⟨Nat.le_of_ble_eq_true rfl, Nat.le_of_ble_eq_true rfl⟩) ⟨PG_blind, va_recv hK hP (ci := 13) (q0 := 0) rfl rfl, PG_call hK hG hS hPc hDc hFc⟩ rfl rfl hl.1 rfl (lv_room (Nat.le_of_ble_eq_true rfl)) dL_put_7 ⟨Nat.le_of_ble_eq_true rfl, Nat.le_of_ble_eq_true rfl⟩) hS (fun q _ h => hFc q h) hFc (fun q _ h => hFc q h) (fun E ce q9 u t H1 locs1 ht9 hvm hp9 hB9 hz hk hS9 hce hcv hcl => ?_) (fun r_1 u_1 t_1 H_1 L_1 ht_1 hvm_1 hw_1 hB_1 hz_1 hk_1 hS => ?_)
  · have hP := rest_kept hP hD hk
    have hD := D_r hD
    have h9 : (E = "java/lang/IndexOutOfBoundsException" ∧ (TOKb x) = false) ∨ (E = "java/lang/IllegalArgumentException" ∧ TOKb x = true ∧ (rngb ky (-999) 999 && rngb mk 0 9999) = false) := hB9
    rcases h9 with ⟨rfl, hc0⟩ | ⟨rfl, hc0, hc1⟩
    · refine vx_catch (own := RL) (name := "java/lang/IndexOutOfBoundsException") (E := "java/lang/IndexOutOfBoundsException") hown [] ⟨0, 12, 15, 13⟩ [⟨0, 12, 19, 15⟩, ⟨0, 12, 23, 17⟩] (by rw [hTab]; rfl) (fun z hz => absurd hz List.not_mem_nil) (by decide) (by decide) hxl0 (xc_0 hG) hce hcv hcl ?_
      have hS := hS9
      have ht_1 := ht9
      refine lv_astore (lv' := [(5, .ref q9), (0, .ref (a 0)), (1, .int x), (2, .int ky), (3, .int mk), (4, .ref ou)]) hx hb dL_put_15 hl (by decide) rfl (fun ls hl => ?_)
      refine lv_iconst (v := 1) hx hb dL_put_17 (by decide) ?_
      exact W.iret (v := 1) hx hb hr (fun t ht hW => ⟨⟨1, f0, rfl, ⟨by simp [cd, hc0], fun h => absurd h (by simp [cd, hc0])⟩, P_at ht hP⟩, hS.F ht⟩) hS.2.2 dL_put_18
    · refine vx_catch (own := RL) (name := "java/lang/IllegalArgumentException") (E := "java/lang/IllegalArgumentException") hown [⟨0, 12, 15, 13⟩] ⟨0, 12, 19, 15⟩ [⟨0, 12, 23, 17⟩] (by rw [hTab]; rfl) (fun z hz => (List.mem_cons.mp hz).elim (fun q => by subst q; exact Or.inr ⟨by decide, _, hxl0, nc_0 hG⟩) (fun hz => absurd hz List.not_mem_nil)) (by decide) (by decide) hxl1 (xc_1 hG) hce hcv hcl ?_
      have hS := hS9
      have ht_1 := ht9
      refine lv_astore (lv' := [(5, .ref q9), (0, .ref (a 0)), (1, .int x), (2, .int ky), (3, .int mk), (4, .ref ou)]) hx hb dL_put_19 hl (by decide) rfl (fun ls hl => ?_)
      refine lv_iconst (v := 2) hx hb dL_put_21 (by decide) ?_
      exact W.iret (v := 2) hx hb hr (fun t ht hW => ⟨⟨2, f0, rfl, ⟨by simp [cd, hc0, hc1], fun h => absurd h (by simp [cd, hc0, hc1])⟩, P_at ht hP⟩, hS.F ht⟩) hS.2.2 dL_put_22
  · have hP := rest_kept hP hD hk_1
    have hD := D_r hD
    obtain ⟨hc0, hc1, rfl⟩ := hw_1
    refine lv_i2l (v := (0 : Int32).toInt64) hx hb dL_put_10 rfl ?_
    refine va_last hx hb hK hP hD hS 0 2 rfl rfl (by unfold vp_in; decide) dL_put_11 (fun H_7 L_7 hP hD hS => ?_)
    have hP : va_P (dC, dI) vwCl [(ou, .inl (g 2, 1, .inr (.inl (vp_updL f0 (0 : Int32).toNatClampNeg ((0 : Int32).toInt64)))))] H_7 := hP
    refine lv_goto (tgt := 27) hx hb dL_put_12 (by decide) ?_
    refine lv_iconst (v := 0) hx hb dL_put_27 (by decide) ?_
    exact W.iret (v := 0) hx hb hr (fun t ht hW => ⟨⟨0, (vp_updL f0 (0 : Int32).toNatClampNeg ((0 : Int32).toInt64)), rfl, ⟨by simp [cd, hc0, hc1], fun _ => rfl⟩, P_at ht hP⟩, hS.F ht⟩) hS.2.2 dL_put_28
noncomputable def wsL_fill2 : List Cond := .codeWith yL_fill cL_fill 7 (some .int) [(0, 14, 17, 13), (0, 14, 21, 15), (0, 14, 25, 17)] :: (wsL_fill ++ [.classLink RL 15 "java/lang/IllegalArgumentException"])
theorem gL2_fill : GoodIn wsL_fill2 (wsV RL 19 RX11 yX11_fill wsX11_fill) := fun w h => ⟨List.mem_cons_of_mem _ (List.mem_append_left _ (gL_fill_X11_fill w h).1), (gL_fill_X11_fill w h).2⟩
set_option maxHeartbeats 4000000 in
set_option maxRecDepth 100000 in
theorem c_L_fill (l : Launch) (hlf : l.stackTraces = false) (dC : Nat → ClassId) (dI : Nat → Nat → Nat) (g : Nat → ClassId) (a : Nat → Nat) (x : Int32) (f : Int32) (sp : Int32) (mn : Int32) (ou : Nat) (f0 : Nat → Int64) (sz : Nat) : Met l yL_fill wsL_fill2 ({ frames := 8, cells := 8, slots := 48, locals := 131 }) (va_Pc [.ref (a 0), .int x, .int f, .int sp, .int mn, .ref ou] (PG (dC, dI) g (offW a g ++ [(ou, .inl (g 2, 1, .inr (.inl f0)))]) sz)) (va_Qi (fun (r : Int32) (fz : Nat → Int64) => r = (cd (TOKb x) (rngb f (-999) 999 && rngb sp (-50) 50 && rngb mn 0 50 && (decide (mn = 0) || rngb (f + (sp * (mn - 1))) (-999) 999)) true) ∧ ((cd (TOKb x) (rngb f (-999) 999 && rngb sp (-50) 50 && rngb mn 0 50 && (decide (mn = 0) || rngb (f + (sp * (mn - 1))) (-999) 999)) true) = 0 → fz 0 = (mn : Int32).toInt64)) (fun (fz : Nat → Int64) t => va_P (dC, dI) vwCl [(ou, .inl (g 2, 1, .inr (.inl fz)))] t.heap) (va_A (offW a g ++ [(ou, .inl (g 2, 1, .inr (.inl f0)))]) sz)) 8 48 (va_A (offW a g ++ [(ou, .inl (g 2, 1, .inr (.inl f0)))]) sz) := by
  refine mt_ofWH (cc := cL_fill) (maxL := 7) (ret := (some .int)) (by decide) rfl ?_
  intro p e s m args below meth c s₁ B hml hv
  obtain ⟨rfl, hsz, hP, hK, hD0, hG⟩ := hv
  have hx := B.exec
  have hb := B.bytes
  have hr := B.returns
  have hts := atoms_spec (ws := wsL_fill2) B.pre
  have hown : s.vm.findClass RL = some m.cls := findClass_of_methodNamed B.named
  have hlocks := B.notSynchronized
  have hTab := vx_table (x := yL_fill) B (hts (Cond.codeWith yL_fill cL_fill 7 (some .int) [(0, 14, 17, 13), (0, 14, 21, 15), (0, 14, 25, 17)]) (List.mem_cons_self))
  subst hsz
  have hD := hD0.self (sz := s.heap.size)
  generalize hAe : va_A (offW a g ++ [(ou, .inl (g 2, 1, .inr (.inl f0)))]) s.heap.size = A at hD hG ⊢
  have hA : ∀ q : Nat, s.heap.size ≤ q → A q := fun q h => by rw [← hAe]; exact Or.inr h
  have hS : va_S A s.heap s.heap [] := va_S.rf
  have hl := lv_entry ([.ref (a 0), .int x, .int f, .int sp, .int mn, .ref ou]) (n := 7) (Nat.le_of_ble_eq_true rfl)
  rw [lg_entry_eq]
  generalize (lg_sl ([.ref (a 0), .int x, .int f, .int sp, .int mn, .ref ou]) ++ List.replicate (7 - (lg_sl ([.ref (a 0), .int x, .int f, .int sp, .int mn, .ref ou])).length) Slot.unset).toArray = ls at hl ⊢
  have hl : lv_has ls 7 [(0, .ref (a 0)), (1, .int x), (2, .int f), (3, .int sp), (4, .int mn), (5, .ref ou)] := hl
  have hxl0 := hts (Cond.classLink RL 13 "java/lang/IndexOutOfBoundsException") (by decide +kernel)
  have hxl1 := hts (Cond.classLink RL 15 "java/lang/IllegalArgumentException") (by decide +kernel)
  refine lv_aload hx hb dL_fill_0 (lv_at hl 5 rfl) ?_
  refine lv_iconst (v := 0) hx hb dL_fill_2 (by decide) ?_
  refine lv_aload_n hx hb dL_fill_3 rfl (lv_at hl 0 rfl) ?_
  refine lv_iload_n hx hb dL_fill_4 rfl (lv_at hl 1 rfl) ?_
  refine lv_iload_n hx hb dL_fill_5 rfl (lv_at hl 2 rfl) ?_
  refine lv_iload_n hx hb dL_fill_6 rfl (lv_at hl 3 rfl) ?_
  refine lv_iload hx hb dL_fill_7 (lv_at hl 4 rfl) ?_
  have hDc := D_l hD
  have hPc := P_l hP
  have hFc : ∀ q, va_A (offW a g) s.heap.size q → A q := A_all hDc hA hS.1
  refine vx_calli (vx_runV (As := [.int x, .int f, .int sp, .int mn]) (rest := [.int 0, .ref ou]) ⟨hx, hb, hml, hown, hts⟩ (c_X11_fill l hlf dC dI g a x f sp mn s.heap.size) (cwV 4 hts gL2_fill rfl rfl rfl (by decide +kernel) ⟨Nat.le_of_ble_eq_true rfl, Nat.le_of_ble_eq_true rfl⟩) ⟨PG_blind, va_recv hK hP (ci := 13) (q0 := 0) rfl rfl, PG_call hK hG hS hPc hDc hFc⟩ rfl rfl hl.1 rfl (lv_room (Nat.le_of_ble_eq_true rfl)) dL_fill_9 ⟨Nat.le_of_ble_eq_true rfl, Nat.le_of_ble_eq_true rfl⟩) hS (fun q _ h => hFc q h) hFc (fun q _ h => hFc q h) (fun E ce q9 u t H1 locs1 ht9 hvm hp9 hB9 hz hk hS9 hce hcv hcl => ?_) (fun r_1 u_1 t_1 H_1 L_1 ht_1 hvm_1 hw_1 hB_1 hz_1 hk_1 hS => ?_)
  · have hP := rest_kept hP hD hk
    have hD := D_r hD
    have h9 : (E = "java/lang/IndexOutOfBoundsException" ∧ (TOKb x) = false) ∨ (E = "java/lang/IllegalArgumentException" ∧ TOKb x = true ∧ (rngb f (-999) 999 && rngb sp (-50) 50 && rngb mn 0 50 && (decide (mn = 0) || rngb (f + (sp * (mn - 1))) (-999) 999)) = false) := hB9
    rcases h9 with ⟨rfl, hc0⟩ | ⟨rfl, hc0, hc1⟩
    · refine vx_catch (own := RL) (name := "java/lang/IndexOutOfBoundsException") (E := "java/lang/IndexOutOfBoundsException") hown [] ⟨0, 14, 17, 13⟩ [⟨0, 14, 21, 15⟩, ⟨0, 14, 25, 17⟩] (by rw [hTab]; rfl) (fun z hz => absurd hz List.not_mem_nil) (by decide) (by decide) hxl0 (xc_0 hG) hce hcv hcl ?_
      have hS := hS9
      have ht_1 := ht9
      refine lv_astore (lv' := [(6, .ref q9), (0, .ref (a 0)), (1, .int x), (2, .int f), (3, .int sp), (4, .int mn), (5, .ref ou)]) hx hb dL_fill_17 hl (by decide) rfl (fun ls hl => ?_)
      refine lv_iconst (v := 1) hx hb dL_fill_19 (by decide) ?_
      exact W.iret (v := 1) hx hb hr (fun t ht hW => ⟨⟨1, f0, rfl, ⟨by simp [cd, hc0], fun h => absurd h (by simp [cd, hc0])⟩, P_at ht hP⟩, hS.F ht⟩) hS.2.2 dL_fill_20
    · refine vx_catch (own := RL) (name := "java/lang/IllegalArgumentException") (E := "java/lang/IllegalArgumentException") hown [⟨0, 14, 17, 13⟩] ⟨0, 14, 21, 15⟩ [⟨0, 14, 25, 17⟩] (by rw [hTab]; rfl) (fun z hz => (List.mem_cons.mp hz).elim (fun q => by subst q; exact Or.inr ⟨by decide, _, hxl0, nc_0 hG⟩) (fun hz => absurd hz List.not_mem_nil)) (by decide) (by decide) hxl1 (xc_1 hG) hce hcv hcl ?_
      have hS := hS9
      have ht_1 := ht9
      refine lv_astore (lv' := [(6, .ref q9), (0, .ref (a 0)), (1, .int x), (2, .int f), (3, .int sp), (4, .int mn), (5, .ref ou)]) hx hb dL_fill_21 hl (by decide) rfl (fun ls hl => ?_)
      refine lv_iconst (v := 2) hx hb dL_fill_23 (by decide) ?_
      exact W.iret (v := 2) hx hb hr (fun t ht hW => ⟨⟨2, f0, rfl, ⟨by simp [cd, hc0, hc1], fun h => absurd h (by simp [cd, hc0, hc1])⟩, P_at ht hP⟩, hS.F ht⟩) hS.2.2 dL_fill_24
  · have hP := rest_kept hP hD hk_1
    have hD := D_r hD
    obtain ⟨hc0, hc1, hr9⟩ := hw_1
    subst r_1
    refine lv_i2l (v := mn.toInt64) hx hb dL_fill_12 rfl ?_
    refine va_last hx hb hK hP hD hS 0 2 rfl rfl (by unfold vp_in; decide) dL_fill_13 (fun H_7 L_7 hP hD hS => ?_)
    have hP : va_P (dC, dI) vwCl [(ou, .inl (g 2, 1, .inr (.inl (vp_updL f0 (0 : Int32).toNatClampNeg mn.toInt64))))] H_7 := hP
    refine lv_goto (tgt := 29) hx hb dL_fill_14 (by decide) ?_
    refine lv_iconst (v := 0) hx hb dL_fill_29 (by decide) ?_
    exact W.iret (v := 0) hx hb hr (fun t ht hW => ⟨⟨0, (vp_updL f0 (0 : Int32).toNatClampNeg mn.toInt64), rfl, ⟨by simp [cd, hc0, hc1], fun _ => rfl⟩, P_at ht hP⟩, hS.F ht⟩) hS.2.2 dL_fill_30
noncomputable def wsL_scatter2 : List Cond := .codeWith yL_scatter cL_scatter 7 (some .int) [(0, 14, 17, 13), (0, 14, 21, 15), (0, 14, 25, 17)] :: (wsL_scatter ++ [.classLink RL 15 "java/lang/IllegalArgumentException"])
theorem gL2_scatter : GoodIn wsL_scatter2 (wsV RL 23 RX11 yX11_scatter wsX11_scatter) := fun w h => ⟨List.mem_cons_of_mem _ (List.mem_append_left _ (gL_scatter_X11_scatter w h).1), (gL_scatter_X11_scatter w h).2⟩
set_option maxHeartbeats 4000000 in
set_option maxRecDepth 100000 in
theorem c_L_scatter (l : Launch) (hlf : l.stackTraces = false) (dC : Nat → ClassId) (dI : Nat → Nat → Nat) (g : Nat → ClassId) (a : Nat → Nat) (x : Int32) (mn : Int32) (rg : Int32) (sd : Int32) (ou : Nat) (f0 : Nat → Int64) (sz : Nat) : Met l yL_scatter wsL_scatter2 ({ frames := 8, cells := 8, slots := 48, locals := 133 }) (va_Pc [.ref (a 0), .int x, .int mn, .int rg, .int sd, .ref ou] (PG (dC, dI) g (offW a g ++ [(ou, .inl (g 2, 1, .inr (.inl f0)))]) sz)) (va_Qi (fun (r : Int32) (fz : Nat → Int64) => r = (cd (TOKb x) (rngb mn 0 50 && rngb rg 1 999 && rngb sd 0 2147483647) true) ∧ ((cd (TOKb x) (rngb mn 0 50 && rngb rg 1 999 && rngb sd 0 2147483647) true) = 0 → fz 0 = (mn : Int32).toInt64)) (fun (fz : Nat → Int64) t => va_P (dC, dI) vwCl [(ou, .inl (g 2, 1, .inr (.inl fz)))] t.heap) (va_A (offW a g ++ [(ou, .inl (g 2, 1, .inr (.inl f0)))]) sz)) 8 48 (va_A (offW a g ++ [(ou, .inl (g 2, 1, .inr (.inl f0)))]) sz) := by
  refine mt_ofWH (cc := cL_scatter) (maxL := 7) (ret := (some .int)) (by decide) rfl ?_
  intro p e s m args below meth c s₁ B hml hv
  obtain ⟨rfl, hsz, hP, hK, hD0, hG⟩ := hv
  have hx := B.exec
  have hb := B.bytes
  have hr := B.returns
  have hts := atoms_spec (ws := wsL_scatter2) B.pre
  have hown : s.vm.findClass RL = some m.cls := findClass_of_methodNamed B.named
  have hlocks := B.notSynchronized
  have hTab := vx_table (x := yL_scatter) B (hts (Cond.codeWith yL_scatter cL_scatter 7 (some .int) [(0, 14, 17, 13), (0, 14, 21, 15), (0, 14, 25, 17)]) (List.mem_cons_self))
  subst hsz
  have hD := hD0.self (sz := s.heap.size)
  generalize hAe : va_A (offW a g ++ [(ou, .inl (g 2, 1, .inr (.inl f0)))]) s.heap.size = A at hD hG ⊢
  have hA : ∀ q : Nat, s.heap.size ≤ q → A q := fun q h => by rw [← hAe]; exact Or.inr h
  have hS : va_S A s.heap s.heap [] := va_S.rf
  have hl := lv_entry ([.ref (a 0), .int x, .int mn, .int rg, .int sd, .ref ou]) (n := 7) (Nat.le_of_ble_eq_true rfl)
  rw [lg_entry_eq]
  generalize (lg_sl ([.ref (a 0), .int x, .int mn, .int rg, .int sd, .ref ou]) ++ List.replicate (7 - (lg_sl ([.ref (a 0), .int x, .int mn, .int rg, .int sd, .ref ou])).length) Slot.unset).toArray = ls at hl ⊢
  have hl : lv_has ls 7 [(0, .ref (a 0)), (1, .int x), (2, .int mn), (3, .int rg), (4, .int sd), (5, .ref ou)] := hl
  have hxl0 := hts (Cond.classLink RL 13 "java/lang/IndexOutOfBoundsException") (by decide +kernel)
  have hxl1 := hts (Cond.classLink RL 15 "java/lang/IllegalArgumentException") (by decide +kernel)
  refine lv_aload hx hb dL_scatter_0 (lv_at hl 5 rfl) ?_
  refine lv_iconst (v := 0) hx hb dL_scatter_2 (by decide) ?_
  refine lv_aload_n hx hb dL_scatter_3 rfl (lv_at hl 0 rfl) ?_
  refine lv_iload_n hx hb dL_scatter_4 rfl (lv_at hl 1 rfl) ?_
  refine lv_iload_n hx hb dL_scatter_5 rfl (lv_at hl 2 rfl) ?_
  refine lv_iload_n hx hb dL_scatter_6 rfl (lv_at hl 3 rfl) ?_
  refine lv_iload hx hb dL_scatter_7 (lv_at hl 4 rfl) ?_
  have hDc := D_l hD
  have hPc := P_l hP
  have hFc : ∀ q, va_A (offW a g) s.heap.size q → A q := A_all hDc hA hS.1
  refine vx_calli (vx_runV (As := [.int x, .int mn, .int rg, .int sd]) (rest := [.int 0, .ref ou]) ⟨hx, hb, hml, hown, hts⟩ (c_X11_scatter l hlf dC dI g a x mn rg sd s.heap.size) (cwV 4 hts gL2_scatter rfl rfl rfl (by decide +kernel) ⟨Nat.le_of_ble_eq_true rfl, Nat.le_of_ble_eq_true rfl⟩) ⟨PG_blind, va_recv hK hP (ci := 13) (q0 := 0) rfl rfl, PG_call hK hG hS hPc hDc hFc⟩ rfl rfl hl.1 rfl (lv_room (Nat.le_of_ble_eq_true rfl)) dL_scatter_9 ⟨Nat.le_of_ble_eq_true rfl, Nat.le_of_ble_eq_true rfl⟩) hS (fun q _ h => hFc q h) hFc (fun q _ h => hFc q h) (fun E ce q9 u t H1 locs1 ht9 hvm hp9 hB9 hz hk hS9 hce hcv hcl => ?_) (fun r_1 u_1 t_1 H_1 L_1 ht_1 hvm_1 hw_1 hB_1 hz_1 hk_1 hS => ?_)
  · have hP := rest_kept hP hD hk
    have hD := D_r hD
    have h9 : (E = "java/lang/IndexOutOfBoundsException" ∧ (TOKb x) = false) ∨ (E = "java/lang/IllegalArgumentException" ∧ TOKb x = true ∧ (rngb mn 0 50 && rngb rg 1 999 && rngb sd 0 2147483647) = false) := hB9
    rcases h9 with ⟨rfl, hc0⟩ | ⟨rfl, hc0, hc1⟩
    · refine vx_catch (own := RL) (name := "java/lang/IndexOutOfBoundsException") (E := "java/lang/IndexOutOfBoundsException") hown [] ⟨0, 14, 17, 13⟩ [⟨0, 14, 21, 15⟩, ⟨0, 14, 25, 17⟩] (by rw [hTab]; rfl) (fun z hz => absurd hz List.not_mem_nil) (by decide) (by decide) hxl0 (xc_0 hG) hce hcv hcl ?_
      have hS := hS9
      have ht_1 := ht9
      refine lv_astore (lv' := [(6, .ref q9), (0, .ref (a 0)), (1, .int x), (2, .int mn), (3, .int rg), (4, .int sd), (5, .ref ou)]) hx hb dL_scatter_17 hl (by decide) rfl (fun ls hl => ?_)
      refine lv_iconst (v := 1) hx hb dL_scatter_19 (by decide) ?_
      exact W.iret (v := 1) hx hb hr (fun t ht hW => ⟨⟨1, f0, rfl, ⟨by simp [cd, hc0], fun h => absurd h (by simp [cd, hc0])⟩, P_at ht hP⟩, hS.F ht⟩) hS.2.2 dL_scatter_20
    · refine vx_catch (own := RL) (name := "java/lang/IllegalArgumentException") (E := "java/lang/IllegalArgumentException") hown [⟨0, 14, 17, 13⟩] ⟨0, 14, 21, 15⟩ [⟨0, 14, 25, 17⟩] (by rw [hTab]; rfl) (fun z hz => (List.mem_cons.mp hz).elim (fun q => by subst q; exact Or.inr ⟨by decide, _, hxl0, nc_0 hG⟩) (fun hz => absurd hz List.not_mem_nil)) (by decide) (by decide) hxl1 (xc_1 hG) hce hcv hcl ?_
      have hS := hS9
      have ht_1 := ht9
      refine lv_astore (lv' := [(6, .ref q9), (0, .ref (a 0)), (1, .int x), (2, .int mn), (3, .int rg), (4, .int sd), (5, .ref ou)]) hx hb dL_scatter_21 hl (by decide) rfl (fun ls hl => ?_)
      refine lv_iconst (v := 2) hx hb dL_scatter_23 (by decide) ?_
      exact W.iret (v := 2) hx hb hr (fun t ht hW => ⟨⟨2, f0, rfl, ⟨by simp [cd, hc0, hc1], fun h => absurd h (by simp [cd, hc0, hc1])⟩, P_at ht hP⟩, hS.F ht⟩) hS.2.2 dL_scatter_24
  · have hP := rest_kept hP hD hk_1
    have hD := D_r hD
    obtain ⟨hc0, hc1, hr9⟩ := hw_1
    subst r_1
    refine lv_i2l (v := mn.toInt64) hx hb dL_scatter_12 rfl ?_
    refine va_last hx hb hK hP hD hS 0 2 rfl rfl (by unfold vp_in; decide) dL_scatter_13 (fun H_7 L_7 hP hD hS => ?_)
    have hP : va_P (dC, dI) vwCl [(ou, .inl (g 2, 1, .inr (.inl (vp_updL f0 (0 : Int32).toNatClampNeg mn.toInt64))))] H_7 := hP
    refine lv_goto (tgt := 29) hx hb dL_scatter_14 (by decide) ?_
    refine lv_iconst (v := 0) hx hb dL_scatter_29 (by decide) ?_
    exact W.iret (v := 0) hx hb hr (fun t ht hW => ⟨⟨0, (vp_updL f0 (0 : Int32).toNatClampNeg mn.toInt64), rfl, ⟨by simp [cd, hc0, hc1], fun _ => rfl⟩, P_at ht hP⟩, hS.F ht⟩) hS.2.2 dL_scatter_30
set_option maxHeartbeats 4000000 in
set_option maxRecDepth 100000 in
theorem c_L_key (l : Launch) (hlf : l.stackTraces = false) (dC : Nat → ClassId) (dI : Nat → Nat → Nat) (g : Nat → ClassId) (a : Nat → Nat) (x : Int32) (ou : Nat) (f0 : Nat → Int64) (sz : Nat) : Met l yL_key wsL_key ({ frames := 8, cells := 1, slots := 6, locals := 124 }) (va_Pc [.ref (a 0), .int x, .ref ou] (PG (dC, dI) g (offW a g ++ [(ou, .inl (g 2, 1, .inr (.inl f0)))]) sz)) (va_Qi (fun (r : Int32) (fz : Nat → Int64) => r = (cd false true true) ∧ ((cd false true true) = 0 → fz 0 = 0)) (fun (fz : Nat → Int64) t => va_P (dC, dI) vwCl [(ou, .inl (g 2, 1, .inr (.inl fz)))] t.heap) (va_A (offW a g ++ [(ou, .inl (g 2, 1, .inr (.inl f0)))]) sz)) 1 6 (va_A (offW a g ++ [(ou, .inl (g 2, 1, .inr (.inl f0)))]) sz) := by
  refine mt_ofWH (cc := cL_key) (maxL := 4) (ret := (some .int)) (by decide) rfl ?_
  intro p e s m args below meth c s₁ B hml hv
  obtain ⟨rfl, hsz, hP, hK, hD0, hG⟩ := hv
  have hx := B.exec
  have hb := B.bytes
  have hr := B.returns
  have hts := atoms_spec (ws := wsL_key) B.pre
  have hown : s.vm.findClass RL = some m.cls := findClass_of_methodNamed B.named
  have hlocks := B.notSynchronized
  have hTab := vx_table (x := yL_key) B (hts (Cond.codeWith yL_key cL_key 4 (some .int) [(0, 9, 12, 13)]) (List.mem_cons_self))
  subst hsz
  have hD := hD0.self (sz := s.heap.size)
  generalize hAe : va_A (offW a g ++ [(ou, .inl (g 2, 1, .inr (.inl f0)))]) s.heap.size = A at hD hG ⊢
  have hA : ∀ q : Nat, s.heap.size ≤ q → A q := fun q h => by rw [← hAe]; exact Or.inr h
  have hS : va_S A s.heap s.heap [] := va_S.rf
  have hl := lv_entry ([.ref (a 0), .int x, .ref ou]) (n := 4) (Nat.le_of_ble_eq_true rfl)
  rw [lg_entry_eq]
  generalize (lg_sl ([.ref (a 0), .int x, .ref ou]) ++ List.replicate (4 - (lg_sl ([.ref (a 0), .int x, .ref ou])).length) Slot.unset).toArray = ls at hl ⊢
  have hl : lv_has ls 4 [(0, .ref (a 0)), (1, .int x), (2, .ref ou)] := hl
  have hxl0 := hts (Cond.classLink RL 13 "java/lang/IndexOutOfBoundsException") (by decide +kernel)
  refine lv_aload_n hx hb dL_key_0 rfl (lv_at hl 2 rfl) ?_
  refine lv_iconst (v := 0) hx hb dL_key_1 (by decide) ?_
  refine lv_aload_n hx hb dL_key_2 rfl (lv_at hl 0 rfl) ?_
  refine lv_iload_n hx hb dL_key_3 rfl (lv_at hl 1 rfl) ?_
  have hDc := D_l hD
  have hPc := P_l hP
  have hFc : ∀ q, va_A (offW a g) s.heap.size q → A q := A_all hDc hA hS.1
  refine vx_calli (vx_runV (As := [.int x]) (rest := [.int 0, .ref ou]) ⟨hx, hb, hml, hown, hts⟩ (c_X11_key l hlf dC dI g a x s.heap.size) (cwV 1 hts gL_key_X11_key rfl rfl rfl (by decide +kernel) ⟨Nat.le_of_ble_eq_true rfl, Nat.le_of_ble_eq_true rfl⟩) ⟨PG_blind, va_recv hK hP (ci := 13) (q0 := 0) rfl rfl, PG_call hK hG hS hPc hDc hFc⟩ rfl rfl hl.1 rfl (lv_room (Nat.le_of_ble_eq_true rfl)) dL_key_4 ⟨Nat.le_of_ble_eq_true rfl, Nat.le_of_ble_eq_true rfl⟩) hS (fun q _ h => hFc q h) hFc (fun q _ h => hFc q h) (fun E ce q9 u t H1 locs1 ht9 hvm hp9 hB9 hz hk hS9 hce hcv hcl => ?_) (fun r_1 u_1 t_1 H_1 L_1 ht_1 hvm_1 hw_1 hB_1 hz_1 hk_1 hS => ?_)
  · have hP := rest_kept hP hD hk
    have hD := D_r hD
    have h9 : E = "java/lang/IndexOutOfBoundsException" := hB9
    rcases h9 with rfl
    · refine vx_catch (own := RL) (name := "java/lang/IndexOutOfBoundsException") (E := "java/lang/IndexOutOfBoundsException") hown [] ⟨0, 9, 12, 13⟩ [] (by rw [hTab]; rfl) (fun z hz => absurd hz List.not_mem_nil) (by decide) (by decide) hxl0 (xc_0 hG) hce hcv hcl ?_
      have hS := hS9
      have ht_1 := ht9
      refine lv_astore_n (lv' := [(3, .ref q9), (0, .ref (a 0)), (1, .int x), (2, .ref ou)]) hx hb dL_key_12 rfl hl (by decide) rfl (fun ls hl => ?_)
      refine lv_iconst (v := 1) hx hb dL_key_13 (by decide) ?_
      exact W.iret (v := 1) hx hb hr (fun t ht hW => ⟨⟨1, f0, rfl, ⟨by simp [cd], fun h => absurd h (by simp [cd])⟩, P_at ht hP⟩, hS.F ht⟩) hS.2.2 dL_key_14
  · exact hw_1.elim
set_option maxHeartbeats 4000000 in
set_option maxRecDepth 100000 in
theorem c_L_mark (l : Launch) (hlf : l.stackTraces = false) (dC : Nat → ClassId) (dI : Nat → Nat → Nat) (g : Nat → ClassId) (a : Nat → Nat) (x : Int32) (ou : Nat) (f0 : Nat → Int64) (sz : Nat) : Met l yL_mark wsL_mark ({ frames := 8, cells := 1, slots := 6, locals := 124 }) (va_Pc [.ref (a 0), .int x, .ref ou] (PG (dC, dI) g (offW a g ++ [(ou, .inl (g 2, 1, .inr (.inl f0)))]) sz)) (va_Qi (fun (r : Int32) (fz : Nat → Int64) => r = (cd false true true) ∧ ((cd false true true) = 0 → fz 0 = 0)) (fun (fz : Nat → Int64) t => va_P (dC, dI) vwCl [(ou, .inl (g 2, 1, .inr (.inl fz)))] t.heap) (va_A (offW a g ++ [(ou, .inl (g 2, 1, .inr (.inl f0)))]) sz)) 1 6 (va_A (offW a g ++ [(ou, .inl (g 2, 1, .inr (.inl f0)))]) sz) := by
  refine mt_ofWH (cc := cL_mark) (maxL := 4) (ret := (some .int)) (by decide) rfl ?_
  intro p e s m args below meth c s₁ B hml hv
  obtain ⟨rfl, hsz, hP, hK, hD0, hG⟩ := hv
  have hx := B.exec
  have hb := B.bytes
  have hr := B.returns
  have hts := atoms_spec (ws := wsL_mark) B.pre
  have hown : s.vm.findClass RL = some m.cls := findClass_of_methodNamed B.named
  have hlocks := B.notSynchronized
  have hTab := vx_table (x := yL_mark) B (hts (Cond.codeWith yL_mark cL_mark 4 (some .int) [(0, 9, 12, 13)]) (List.mem_cons_self))
  subst hsz
  have hD := hD0.self (sz := s.heap.size)
  generalize hAe : va_A (offW a g ++ [(ou, .inl (g 2, 1, .inr (.inl f0)))]) s.heap.size = A at hD hG ⊢
  have hA : ∀ q : Nat, s.heap.size ≤ q → A q := fun q h => by rw [← hAe]; exact Or.inr h
  have hS : va_S A s.heap s.heap [] := va_S.rf
  have hl := lv_entry ([.ref (a 0), .int x, .ref ou]) (n := 4) (Nat.le_of_ble_eq_true rfl)
  rw [lg_entry_eq]
  generalize (lg_sl ([.ref (a 0), .int x, .ref ou]) ++ List.replicate (4 - (lg_sl ([.ref (a 0), .int x, .ref ou])).length) Slot.unset).toArray = ls at hl ⊢
  have hl : lv_has ls 4 [(0, .ref (a 0)), (1, .int x), (2, .ref ou)] := hl
  have hxl0 := hts (Cond.classLink RL 13 "java/lang/IndexOutOfBoundsException") (by decide +kernel)
  refine lv_aload_n hx hb dL_mark_0 rfl (lv_at hl 2 rfl) ?_
  refine lv_iconst (v := 0) hx hb dL_mark_1 (by decide) ?_
  refine lv_aload_n hx hb dL_mark_2 rfl (lv_at hl 0 rfl) ?_
  refine lv_iload_n hx hb dL_mark_3 rfl (lv_at hl 1 rfl) ?_
  have hDc := D_l hD
  have hPc := P_l hP
  have hFc : ∀ q, va_A (offW a g) s.heap.size q → A q := A_all hDc hA hS.1
  refine vx_calli (vx_runV (As := [.int x]) (rest := [.int 0, .ref ou]) ⟨hx, hb, hml, hown, hts⟩ (c_X11_mark l hlf dC dI g a x s.heap.size) (cwV 1 hts gL_mark_X11_mark rfl rfl rfl (by decide +kernel) ⟨Nat.le_of_ble_eq_true rfl, Nat.le_of_ble_eq_true rfl⟩) ⟨PG_blind, va_recv hK hP (ci := 13) (q0 := 0) rfl rfl, PG_call hK hG hS hPc hDc hFc⟩ rfl rfl hl.1 rfl (lv_room (Nat.le_of_ble_eq_true rfl)) dL_mark_4 ⟨Nat.le_of_ble_eq_true rfl, Nat.le_of_ble_eq_true rfl⟩) hS (fun q _ h => hFc q h) hFc (fun q _ h => hFc q h) (fun E ce q9 u t H1 locs1 ht9 hvm hp9 hB9 hz hk hS9 hce hcv hcl => ?_) (fun r_1 u_1 t_1 H_1 L_1 ht_1 hvm_1 hw_1 hB_1 hz_1 hk_1 hS => ?_)
  · have hP := rest_kept hP hD hk
    have hD := D_r hD
    have h9 : E = "java/lang/IndexOutOfBoundsException" := hB9
    rcases h9 with rfl
    · refine vx_catch (own := RL) (name := "java/lang/IndexOutOfBoundsException") (E := "java/lang/IndexOutOfBoundsException") hown [] ⟨0, 9, 12, 13⟩ [] (by rw [hTab]; rfl) (fun z hz => absurd hz List.not_mem_nil) (by decide) (by decide) hxl0 (xc_0 hG) hce hcv hcl ?_
      have hS := hS9
      have ht_1 := ht9
      refine lv_astore_n (lv' := [(3, .ref q9), (0, .ref (a 0)), (1, .int x), (2, .ref ou)]) hx hb dL_mark_12 rfl hl (by decide) rfl (fun ls hl => ?_)
      refine lv_iconst (v := 1) hx hb dL_mark_13 (by decide) ?_
      exact W.iret (v := 1) hx hb hr (fun t ht hW => ⟨⟨1, f0, rfl, ⟨by simp [cd], fun h => absurd h (by simp [cd])⟩, P_at ht hP⟩, hS.F ht⟩) hS.2.2 dL_mark_14
  · exact hw_1.elim
set_option maxHeartbeats 4000000 in
set_option maxRecDepth 100000 in
theorem c_L_length (l : Launch) (hlf : l.stackTraces = false) (dC : Nat → ClassId) (dI : Nat → Nat → Nat) (g : Nat → ClassId) (a : Nat → Nat) (x : Int32) (ou : Nat) (f0 : Nat → Int64) (sz : Nat) : Met l yL_length wsL_length ({ frames := 8, cells := 8, slots := 48, locals := 124 }) (va_Pc [.ref (a 0), .int x, .ref ou] (PG (dC, dI) g (offW a g ++ [(ou, .inl (g 2, 1, .inr (.inl f0)))]) sz)) (va_Qi (fun (r : Int32) (fz : Nat → Int64) => r = (cd (TOKb x) true true) ∧ ((cd (TOKb x) true true) = 0 → fz 0 = (0 : Int32).toInt64)) (fun (fz : Nat → Int64) t => va_P (dC, dI) vwCl [(ou, .inl (g 2, 1, .inr (.inl fz)))] t.heap) (va_A (offW a g ++ [(ou, .inl (g 2, 1, .inr (.inl f0)))]) sz)) 8 48 (va_A (offW a g ++ [(ou, .inl (g 2, 1, .inr (.inl f0)))]) sz) := by
  refine mt_ofWH (cc := cL_length) (maxL := 4) (ret := (some .int)) (by decide) rfl ?_
  intro p e s m args below meth c s₁ B hml hv
  obtain ⟨rfl, hsz, hP, hK, hD0, hG⟩ := hv
  have hx := B.exec
  have hb := B.bytes
  have hr := B.returns
  have hts := atoms_spec (ws := wsL_length) B.pre
  have hown : s.vm.findClass RL = some m.cls := findClass_of_methodNamed B.named
  have hlocks := B.notSynchronized
  have hTab := vx_table (x := yL_length) B (hts (Cond.codeWith yL_length cL_length 4 (some .int) [(0, 9, 12, 13)]) (List.mem_cons_self))
  subst hsz
  have hD := hD0.self (sz := s.heap.size)
  generalize hAe : va_A (offW a g ++ [(ou, .inl (g 2, 1, .inr (.inl f0)))]) s.heap.size = A at hD hG ⊢
  have hA : ∀ q : Nat, s.heap.size ≤ q → A q := fun q h => by rw [← hAe]; exact Or.inr h
  have hS : va_S A s.heap s.heap [] := va_S.rf
  have hl := lv_entry ([.ref (a 0), .int x, .ref ou]) (n := 4) (Nat.le_of_ble_eq_true rfl)
  rw [lg_entry_eq]
  generalize (lg_sl ([.ref (a 0), .int x, .ref ou]) ++ List.replicate (4 - (lg_sl ([.ref (a 0), .int x, .ref ou])).length) Slot.unset).toArray = ls at hl ⊢
  have hl : lv_has ls 4 [(0, .ref (a 0)), (1, .int x), (2, .ref ou)] := hl
  have hxl0 := hts (Cond.classLink RL 13 "java/lang/IndexOutOfBoundsException") (by decide +kernel)
  refine lv_aload_n hx hb dL_length_0 rfl (lv_at hl 2 rfl) ?_
  refine lv_iconst (v := 0) hx hb dL_length_1 (by decide) ?_
  refine lv_aload_n hx hb dL_length_2 rfl (lv_at hl 0 rfl) ?_
  refine lv_iload_n hx hb dL_length_3 rfl (lv_at hl 1 rfl) ?_
  have hDc := D_l hD
  have hPc := P_l hP
  have hFc : ∀ q, va_A (offW a g) s.heap.size q → A q := A_all hDc hA hS.1
  refine vx_calli (vx_runV (As := [.int x]) (rest := [.int 0, .ref ou]) ⟨hx, hb, hml, hown, hts⟩ (c_X11_length l hlf dC dI g a x s.heap.size) (cwV 1 hts gL_length_X11_length rfl rfl rfl (by decide +kernel) ⟨Nat.le_of_ble_eq_true rfl, Nat.le_of_ble_eq_true rfl⟩) ⟨PG_blind, va_recv hK hP (ci := 13) (q0 := 0) rfl rfl, PG_call hK hG hS hPc hDc hFc⟩ rfl rfl hl.1 rfl (lv_room (Nat.le_of_ble_eq_true rfl)) dL_length_4 ⟨Nat.le_of_ble_eq_true rfl, Nat.le_of_ble_eq_true rfl⟩) hS (fun q _ h => hFc q h) hFc (fun q _ h => hFc q h) (fun E ce q9 u t H1 locs1 ht9 hvm hp9 hB9 hz hk hS9 hce hcv hcl => ?_) (fun r_1 u_1 t_1 H_1 L_1 ht_1 hvm_1 hw_1 hB_1 hz_1 hk_1 hS => ?_)
  · have hP := rest_kept hP hD hk
    have hD := D_r hD
    have h9 : E = "java/lang/IndexOutOfBoundsException" ∧ (TOKb x) = false := hB9
    rcases h9 with ⟨rfl, hc0⟩
    · refine vx_catch (own := RL) (name := "java/lang/IndexOutOfBoundsException") (E := "java/lang/IndexOutOfBoundsException") hown [] ⟨0, 9, 12, 13⟩ [] (by rw [hTab]; rfl) (fun z hz => absurd hz List.not_mem_nil) (by decide) (by decide) hxl0 (xc_0 hG) hce hcv hcl ?_
      have hS := hS9
      have ht_1 := ht9
      refine lv_astore_n (lv' := [(3, .ref q9), (0, .ref (a 0)), (1, .int x), (2, .ref ou)]) hx hb dL_length_12 rfl hl (by decide) rfl (fun ls hl => ?_)
      refine lv_iconst (v := 1) hx hb dL_length_13 (by decide) ?_
      exact W.iret (v := 1) hx hb hr (fun t ht hW => ⟨⟨1, f0, rfl, ⟨by simp [cd, hc0], fun h => absurd h (by simp [cd, hc0])⟩, P_at ht hP⟩, hS.F ht⟩) hS.2.2 dL_length_14
  · have hP := rest_kept hP hD hk_1
    have hD := D_r hD
    obtain ⟨hc0, rfl⟩ := hw_1
    refine lv_i2l (v := (0 : Int32).toInt64) hx hb dL_length_7 rfl ?_
    refine va_last hx hb hK hP hD hS 0 2 rfl rfl (by unfold vp_in; decide) dL_length_8 (fun H_7 L_7 hP hD hS => ?_)
    have hP : va_P (dC, dI) vwCl [(ou, .inl (g 2, 1, .inr (.inl (vp_updL f0 (0 : Int32).toNatClampNeg ((0 : Int32).toInt64)))))] H_7 := hP
    refine lv_goto (tgt := 15) hx hb dL_length_9 (by decide) ?_
    refine lv_iconst (v := 0) hx hb dL_length_15 (by decide) ?_
    exact W.iret (v := 0) hx hb hr (fun t ht hW => ⟨⟨0, (vp_updL f0 (0 : Int32).toNatClampNeg ((0 : Int32).toInt64)), rfl, ⟨by simp [cd, hc0], fun _ => rfl⟩, P_at ht hP⟩, hS.F ht⟩) hS.2.2 dL_length_16
set_option maxHeartbeats 4000000 in
set_option maxRecDepth 100000 in
theorem c_L_at (l : Launch) (hlf : l.stackTraces = false) (dC : Nat → ClassId) (dI : Nat → Nat → Nat) (g : Nat → ClassId) (a : Nat → Nat) (x : Int32) (pl : Int32) (ou : Nat) (f0 : Nat → Int64) (sz : Nat) : Met l yL_at wsL_at ({ frames := 8, cells := 8, slots := 48, locals := 126 }) (va_Pc [.ref (a 0), .int x, .int pl, .ref ou] (PG (dC, dI) g (offW a g ++ [(ou, .inl (g 2, 1, .inr (.inl f0)))]) sz)) (va_Qi (fun (r : Int32) (fz : Nat → Int64) => r = (cd false true true) ∧ ((cd false true true) = 0 → fz 0 = 0)) (fun (fz : Nat → Int64) t => va_P (dC, dI) vwCl [(ou, .inl (g 2, 1, .inr (.inl fz)))] t.heap) (va_A (offW a g ++ [(ou, .inl (g 2, 1, .inr (.inl f0)))]) sz)) 8 48 (va_A (offW a g ++ [(ou, .inl (g 2, 1, .inr (.inl f0)))]) sz) := by
  refine mt_ofWH (cc := cL_at) (maxL := 5) (ret := (some .int)) (by decide) rfl ?_
  intro p e s m args below meth c s₁ B hml hv
  obtain ⟨rfl, hsz, hP, hK, hD0, hG⟩ := hv
  have hx := B.exec
  have hb := B.bytes
  have hr := B.returns
  have hts := atoms_spec (ws := wsL_at) B.pre
  have hown : s.vm.findClass RL = some m.cls := findClass_of_methodNamed B.named
  have hlocks := B.notSynchronized
  have hTab := vx_table (x := yL_at) B (hts (Cond.codeWith yL_at cL_at 5 (some .int) [(0, 10, 13, 13)]) (List.mem_cons_self))
  subst hsz
  have hD := hD0.self (sz := s.heap.size)
  generalize hAe : va_A (offW a g ++ [(ou, .inl (g 2, 1, .inr (.inl f0)))]) s.heap.size = A at hD hG ⊢
  have hA : ∀ q : Nat, s.heap.size ≤ q → A q := fun q h => by rw [← hAe]; exact Or.inr h
  have hS : va_S A s.heap s.heap [] := va_S.rf
  have hl := lv_entry ([.ref (a 0), .int x, .int pl, .ref ou]) (n := 5) (Nat.le_of_ble_eq_true rfl)
  rw [lg_entry_eq]
  generalize (lg_sl ([.ref (a 0), .int x, .int pl, .ref ou]) ++ List.replicate (5 - (lg_sl ([.ref (a 0), .int x, .int pl, .ref ou])).length) Slot.unset).toArray = ls at hl ⊢
  have hl : lv_has ls 5 [(0, .ref (a 0)), (1, .int x), (2, .int pl), (3, .ref ou)] := hl
  have hxl0 := hts (Cond.classLink RL 13 "java/lang/IndexOutOfBoundsException") (by decide +kernel)
  refine lv_aload_n hx hb dL_at_0 rfl (lv_at hl 3 rfl) ?_
  refine lv_iconst (v := 0) hx hb dL_at_1 (by decide) ?_
  refine lv_aload_n hx hb dL_at_2 rfl (lv_at hl 0 rfl) ?_
  refine lv_iload_n hx hb dL_at_3 rfl (lv_at hl 1 rfl) ?_
  refine lv_iload_n hx hb dL_at_4 rfl (lv_at hl 2 rfl) ?_
  have hDc := D_l hD
  have hPc := P_l hP
  have hFc : ∀ q, va_A (offW a g) s.heap.size q → A q := A_all hDc hA hS.1
  refine vx_calli (vx_runV (As := [.int x, .int pl]) (rest := [.int 0, .ref ou]) ⟨hx, hb, hml, hown, hts⟩ (c_X11_at l hlf dC dI g a x pl s.heap.size) (cwV 2 hts gL_at_X11_at rfl rfl rfl (by decide +kernel) ⟨Nat.le_of_ble_eq_true rfl, Nat.le_of_ble_eq_true rfl⟩) ⟨PG_blind, va_recv hK hP (ci := 13) (q0 := 0) rfl rfl, PG_call hK hG hS hPc hDc hFc⟩ rfl rfl hl.1 rfl (lv_room (Nat.le_of_ble_eq_true rfl)) dL_at_5 ⟨Nat.le_of_ble_eq_true rfl, Nat.le_of_ble_eq_true rfl⟩) hS (fun q _ h => hFc q h) hFc (fun q _ h => hFc q h) (fun E ce q9 u t H1 locs1 ht9 hvm hp9 hB9 hz hk hS9 hce hcv hcl => ?_) (fun r_1 u_1 t_1 H_1 L_1 ht_1 hvm_1 hw_1 hB_1 hz_1 hk_1 hS => ?_)
  · have hP := rest_kept hP hD hk
    have hD := D_r hD
    have h9 : E = "java/lang/IndexOutOfBoundsException" := hB9
    rcases h9 with rfl
    · refine vx_catch (own := RL) (name := "java/lang/IndexOutOfBoundsException") (E := "java/lang/IndexOutOfBoundsException") hown [] ⟨0, 10, 13, 13⟩ [] (by rw [hTab]; rfl) (fun z hz => absurd hz List.not_mem_nil) (by decide) (by decide) hxl0 (xc_0 hG) hce hcv hcl ?_
      have hS := hS9
      have ht_1 := ht9
      refine lv_astore (lv' := [(4, .ref q9), (0, .ref (a 0)), (1, .int x), (2, .int pl), (3, .ref ou)]) hx hb dL_at_13 hl (by decide) rfl (fun ls hl => ?_)
      refine lv_iconst (v := 1) hx hb dL_at_15 (by decide) ?_
      exact W.iret (v := 1) hx hb hr (fun t ht hW => ⟨⟨1, f0, rfl, ⟨by simp [cd], fun h => absurd h (by simp [cd])⟩, P_at ht hP⟩, hS.F ht⟩) hS.2.2 dL_at_16
  · exact hw_1.elim
set_option maxHeartbeats 4000000 in
set_option maxRecDepth 100000 in
theorem c_L_digest (l : Launch) (hlf : l.stackTraces = false) (dC : Nat → ClassId) (dI : Nat → Nat → Nat) (g : Nat → ClassId) (a : Nat → Nat) (x : Int32) (ou : Nat) (f0 : Nat → Int64) (sz : Nat) : Met l yL_digest wsL_digest ({ frames := 8, cells := 8, slots := 48, locals := 127 }) (va_Pc [.ref (a 0), .int x, .ref ou] (PG (dC, dI) g (offW a g ++ [(ou, .inl (g 2, 1, .inr (.inl f0)))]) sz)) (va_Qi (fun (r : Int32) (fz : Nat → Int64) => r = (cd (TOKb x) true true) ∧ ((cd (TOKb x) true true) = 0 → fz 0 = (7 : Int32).toInt64)) (fun (fz : Nat → Int64) t => va_P (dC, dI) vwCl [(ou, .inl (g 2, 1, .inr (.inl fz)))] t.heap) (va_A (offW a g ++ [(ou, .inl (g 2, 1, .inr (.inl f0)))]) sz)) 8 48 (va_A (offW a g ++ [(ou, .inl (g 2, 1, .inr (.inl f0)))]) sz) := by
  refine mt_ofWH (cc := cL_digest) (maxL := 4) (ret := (some .int)) (by decide) rfl ?_
  intro p e s m args below meth c s₁ B hml hv
  obtain ⟨rfl, hsz, hP, hK, hD0, hG⟩ := hv
  have hx := B.exec
  have hb := B.bytes
  have hr := B.returns
  have hts := atoms_spec (ws := wsL_digest) B.pre
  have hown : s.vm.findClass RL = some m.cls := findClass_of_methodNamed B.named
  have hlocks := B.notSynchronized
  have hTab := vx_table (x := yL_digest) B (hts (Cond.codeWith yL_digest cL_digest 4 (some .int) [(0, 9, 12, 13)]) (List.mem_cons_self))
  subst hsz
  have hD := hD0.self (sz := s.heap.size)
  generalize hAe : va_A (offW a g ++ [(ou, .inl (g 2, 1, .inr (.inl f0)))]) s.heap.size = A at hD hG ⊢
  have hA : ∀ q : Nat, s.heap.size ≤ q → A q := fun q h => by rw [← hAe]; exact Or.inr h
  have hS : va_S A s.heap s.heap [] := va_S.rf
  have hl := lv_entry ([.ref (a 0), .int x, .ref ou]) (n := 4) (Nat.le_of_ble_eq_true rfl)
  rw [lg_entry_eq]
  generalize (lg_sl ([.ref (a 0), .int x, .ref ou]) ++ List.replicate (4 - (lg_sl ([.ref (a 0), .int x, .ref ou])).length) Slot.unset).toArray = ls at hl ⊢
  have hl : lv_has ls 4 [(0, .ref (a 0)), (1, .int x), (2, .ref ou)] := hl
  have hxl0 := hts (Cond.classLink RL 13 "java/lang/IndexOutOfBoundsException") (by decide +kernel)
  refine lv_aload_n hx hb dL_digest_0 rfl (lv_at hl 2 rfl) ?_
  refine lv_iconst (v := 0) hx hb dL_digest_1 (by decide) ?_
  refine lv_aload_n hx hb dL_digest_2 rfl (lv_at hl 0 rfl) ?_
  refine lv_iload_n hx hb dL_digest_3 rfl (lv_at hl 1 rfl) ?_
  have hDc := D_l hD
  have hPc := P_l hP
  have hFc : ∀ q, va_A (offW a g) s.heap.size q → A q := A_all hDc hA hS.1
  refine vx_calli (vx_runV (As := [.int x]) (rest := [.int 0, .ref ou]) ⟨hx, hb, hml, hown, hts⟩ (c_X11_digest l hlf dC dI g a x s.heap.size) (cwV 1 hts gL_digest_X11_digest rfl rfl rfl (by decide +kernel) ⟨Nat.le_of_ble_eq_true rfl, Nat.le_of_ble_eq_true rfl⟩) ⟨PG_blind, va_recv hK hP (ci := 13) (q0 := 0) rfl rfl, PG_call hK hG hS hPc hDc hFc⟩ rfl rfl hl.1 rfl (lv_room (Nat.le_of_ble_eq_true rfl)) dL_digest_4 ⟨Nat.le_of_ble_eq_true rfl, Nat.le_of_ble_eq_true rfl⟩) hS (fun q _ h => hFc q h) hFc (fun q _ h => hFc q h) (fun E ce q9 u t H1 locs1 ht9 hvm hp9 hB9 hz hk hS9 hce hcv hcl => ?_) (fun r_1 u_1 t_1 H_1 L_1 ht_1 hvm_1 hw_1 hB_1 hz_1 hk_1 hS => ?_)
  · have hP := rest_kept hP hD hk
    have hD := D_r hD
    have h9 : E = "java/lang/IndexOutOfBoundsException" ∧ (TOKb x) = false := hB9
    rcases h9 with ⟨rfl, hc0⟩
    · refine vx_catch (own := RL) (name := "java/lang/IndexOutOfBoundsException") (E := "java/lang/IndexOutOfBoundsException") hown [] ⟨0, 9, 12, 13⟩ [] (by rw [hTab]; rfl) (fun z hz => absurd hz List.not_mem_nil) (by decide) (by decide) hxl0 (xc_0 hG) hce hcv hcl ?_
      have hS := hS9
      have ht_1 := ht9
      refine lv_astore_n (lv' := [(3, .ref q9), (0, .ref (a 0)), (1, .int x), (2, .ref ou)]) hx hb dL_digest_12 rfl hl (by decide) rfl (fun ls hl => ?_)
      refine lv_iconst (v := 1) hx hb dL_digest_13 (by decide) ?_
      exact W.iret (v := 1) hx hb hr (fun t ht hW => ⟨⟨1, f0, rfl, ⟨by simp [cd, hc0], fun h => absurd h (by simp [cd, hc0])⟩, P_at ht hP⟩, hS.F ht⟩) hS.2.2 dL_digest_14
  · have hP := rest_kept hP hD hk_1
    have hD := D_r hD
    obtain ⟨hc0, rfl⟩ := hw_1
    refine lv_i2l (v := (7 : Int32).toInt64) hx hb dL_digest_7 rfl ?_
    refine va_last hx hb hK hP hD hS 0 2 rfl rfl (by unfold vp_in; decide) dL_digest_8 (fun H_7 L_7 hP hD hS => ?_)
    have hP : va_P (dC, dI) vwCl [(ou, .inl (g 2, 1, .inr (.inl (vp_updL f0 (0 : Int32).toNatClampNeg ((7 : Int32).toInt64)))))] H_7 := hP
    refine lv_goto (tgt := 15) hx hb dL_digest_9 (by decide) ?_
    refine lv_iconst (v := 0) hx hb dL_digest_15 (by decide) ?_
    exact W.iret (v := 0) hx hb hr (fun t ht hW => ⟨⟨0, (vp_updL f0 (0 : Int32).toNatClampNeg ((7 : Int32).toInt64)), rfl, ⟨by simp [cd, hc0], fun _ => rfl⟩, P_at ht hP⟩, hS.F ht⟩) hS.2.2 dL_digest_16
noncomputable def wsL_isSorted2 : List Cond := .codeWith yL_isSorted cL_isSorted 5 (some .int) [(0, 17, 20, 13), (0, 17, 24, 15)] :: (wsL_isSorted ++ [.classLink RL 15 "java/lang/IllegalArgumentException"])
theorem gL2_isSorted : GoodIn wsL_isSorted2 (wsV RL 43 RX11 yX11_isSorted wsX11_isSorted) := fun w h => ⟨List.mem_cons_of_mem _ (List.mem_append_left _ (gL_isSorted_X11_isSorted w h).1), (gL_isSorted_X11_isSorted w h).2⟩
set_option maxHeartbeats 4000000 in
set_option maxRecDepth 100000 in
theorem c_L_isSorted (l : Launch) (hlf : l.stackTraces = false) (dC : Nat → ClassId) (dI : Nat → Nat → Nat) (g : Nat → ClassId) (a : Nat → Nat) (x : Int32) (od : Int32) (ou : Nat) (f0 : Nat → Int64) (sz : Nat) : Met l yL_isSorted wsL_isSorted2 ({ frames := 8, cells := 8, slots := 48, locals := 128 }) (va_Pc [.ref (a 0), .int x, .int od, .ref ou] (PG (dC, dI) g (offW a g ++ [(ou, .inl (g 2, 1, .inr (.inl f0)))]) sz)) (va_Qi (fun (r : Int32) (fz : Nat → Int64) => r = (cd (TOKb x) (rngb od 0 1) true) ∧ ((cd (TOKb x) (rngb od 0 1) true) = 0 → fz 0 = 1)) (fun (fz : Nat → Int64) t => va_P (dC, dI) vwCl [(ou, .inl (g 2, 1, .inr (.inl fz)))] t.heap) (va_A (offW a g ++ [(ou, .inl (g 2, 1, .inr (.inl f0)))]) sz)) 8 48 (va_A (offW a g ++ [(ou, .inl (g 2, 1, .inr (.inl f0)))]) sz) := by
  refine mt_ofWH (cc := cL_isSorted) (maxL := 5) (ret := (some .int)) (by decide) rfl ?_
  intro p e s m args below meth c s₁ B hml hv
  obtain ⟨rfl, hsz, hP, hK, hD0, hG⟩ := hv
  have hx := B.exec
  have hb := B.bytes
  have hr := B.returns
  have hts := atoms_spec (ws := wsL_isSorted2) B.pre
  have hown : s.vm.findClass RL = some m.cls := findClass_of_methodNamed B.named
  have hlocks := B.notSynchronized
  have hTab := vx_table (x := yL_isSorted) B (hts (Cond.codeWith yL_isSorted cL_isSorted 5 (some .int) [(0, 17, 20, 13), (0, 17, 24, 15)]) (List.mem_cons_self))
  subst hsz
  have hD := hD0.self (sz := s.heap.size)
  generalize hAe : va_A (offW a g ++ [(ou, .inl (g 2, 1, .inr (.inl f0)))]) s.heap.size = A at hD hG ⊢
  have hA : ∀ q : Nat, s.heap.size ≤ q → A q := fun q h => by rw [← hAe]; exact Or.inr h
  have hS : va_S A s.heap s.heap [] := va_S.rf
  have hl := lv_entry ([.ref (a 0), .int x, .int od, .ref ou]) (n := 5) (Nat.le_of_ble_eq_true rfl)
  rw [lg_entry_eq]
  generalize (lg_sl ([.ref (a 0), .int x, .int od, .ref ou]) ++ List.replicate (5 - (lg_sl ([.ref (a 0), .int x, .int od, .ref ou])).length) Slot.unset).toArray = ls at hl ⊢
  have hl : lv_has ls 5 [(0, .ref (a 0)), (1, .int x), (2, .int od), (3, .ref ou)] := hl
  have hxl0 := hts (Cond.classLink RL 13 "java/lang/IndexOutOfBoundsException") (by decide +kernel)
  have hxl1 := hts (Cond.classLink RL 15 "java/lang/IllegalArgumentException") (by decide +kernel)
  refine lv_aload_n hx hb dL_isSorted_0 rfl (lv_at hl 3 rfl) ?_
  refine lv_iconst (v := 0) hx hb dL_isSorted_1 (by decide) ?_
  refine lv_aload_n hx hb dL_isSorted_2 rfl (lv_at hl 0 rfl) ?_
  refine lv_iload_n hx hb dL_isSorted_3 rfl (lv_at hl 1 rfl) ?_
  refine lv_iload_n hx hb dL_isSorted_4 rfl (lv_at hl 2 rfl) ?_
  have hDc := D_l hD
  have hPc := P_l hP
  have hFc : ∀ q, va_A (offW a g) s.heap.size q → A q := A_all hDc hA hS.1
  refine vx_calli (vx_runV (As := [.int x, .int od]) (rest := [.int 0, .ref ou]) ⟨hx, hb, hml, hown, hts⟩ (c_X11_isSorted l hlf dC dI g a x od s.heap.size) (cwV 2 hts gL2_isSorted rfl rfl rfl (by decide +kernel) ⟨Nat.le_of_ble_eq_true rfl, Nat.le_of_ble_eq_true rfl⟩) ⟨PG_blind, va_recv hK hP (ci := 13) (q0 := 0) rfl rfl, PG_call hK hG hS hPc hDc hFc⟩ rfl rfl hl.1 rfl (lv_room (Nat.le_of_ble_eq_true rfl)) dL_isSorted_5 ⟨Nat.le_of_ble_eq_true rfl, Nat.le_of_ble_eq_true rfl⟩) hS (fun q _ h => hFc q h) hFc (fun q _ h => hFc q h) (fun E ce q9 u t H1 locs1 ht9 hvm hp9 hB9 hz hk hS9 hce hcv hcl => ?_) (fun r_1 u_1 t_1 H_1 L_1 ht_1 hvm_1 hw_1 hB_1 hz_1 hk_1 hS => ?_)
  · have hP := rest_kept hP hD hk
    have hD := D_r hD
    have h9 : (E = "java/lang/IndexOutOfBoundsException" ∧ (TOKb x) = false) ∨ (E = "java/lang/IllegalArgumentException" ∧ TOKb x = true ∧ (rngb od 0 1) = false) := hB9
    rcases h9 with ⟨rfl, hc0⟩ | ⟨rfl, hc0, hc1⟩
    · refine vx_catch (own := RL) (name := "java/lang/IndexOutOfBoundsException") (E := "java/lang/IndexOutOfBoundsException") hown [] ⟨0, 17, 20, 13⟩ [⟨0, 17, 24, 15⟩] (by rw [hTab]; rfl) (fun z hz => absurd hz List.not_mem_nil) (by decide) (by decide) hxl0 (xc_0 hG) hce hcv hcl ?_
      have hS := hS9
      have ht_1 := ht9
      refine lv_astore (lv' := [(4, .ref q9), (0, .ref (a 0)), (1, .int x), (2, .int od), (3, .ref ou)]) hx hb dL_isSorted_20 hl (by decide) rfl (fun ls hl => ?_)
      refine lv_iconst (v := 1) hx hb dL_isSorted_22 (by decide) ?_
      exact W.iret (v := 1) hx hb hr (fun t ht hW => ⟨⟨1, f0, rfl, ⟨by simp [cd, hc0], fun h => absurd h (by simp [cd, hc0])⟩, P_at ht hP⟩, hS.F ht⟩) hS.2.2 dL_isSorted_23
    · refine vx_catch (own := RL) (name := "java/lang/IllegalArgumentException") (E := "java/lang/IllegalArgumentException") hown [⟨0, 17, 20, 13⟩] ⟨0, 17, 24, 15⟩ [] (by rw [hTab]; rfl) (fun z hz => (List.mem_cons.mp hz).elim (fun q => by subst q; exact Or.inr ⟨by decide, _, hxl0, nc_0 hG⟩) (fun hz => absurd hz List.not_mem_nil)) (by decide) (by decide) hxl1 (xc_1 hG) hce hcv hcl ?_
      have hS := hS9
      have ht_1 := ht9
      refine lv_astore (lv' := [(4, .ref q9), (0, .ref (a 0)), (1, .int x), (2, .int od), (3, .ref ou)]) hx hb dL_isSorted_24 hl (by decide) rfl (fun ls hl => ?_)
      refine lv_iconst (v := 2) hx hb dL_isSorted_26 (by decide) ?_
      exact W.iret (v := 2) hx hb hr (fun t ht hW => ⟨⟨2, f0, rfl, ⟨by simp [cd, hc0, hc1], fun h => absurd h (by simp [cd, hc0, hc1])⟩, P_at ht hP⟩, hS.F ht⟩) hS.2.2 dL_isSorted_27
  · have hP := rest_kept hP hD hk_1
    have hD := D_r hD
    obtain ⟨hc0, hc1, rfl⟩ := hw_1
    refine lv_if_eq (tgt := 15) hx hb dL_isSorted_8 (by decide) (fun c_1 => absurd c_1 (by decide)) (fun c_1 => ?_)
    refine lv_lconst (v := 1) hx hb dL_isSorted_11 rfl ?_
    refine lv_goto (tgt := 16) hx hb dL_isSorted_12 (by decide) ?_
    refine va_last hx hb hK hP hD hS 0 2 rfl rfl (by unfold vp_in; decide) dL_isSorted_16 (fun H_7 L_7 hP hD hS => ?_)
    have hP : va_P (dC, dI) vwCl [(ou, .inl (g 2, 1, .inr (.inl (vp_updL f0 (0 : Int32).toNatClampNeg 1))))] H_7 := hP
    refine lv_goto (tgt := 28) hx hb dL_isSorted_17 (by decide) ?_
    refine lv_iconst (v := 0) hx hb dL_isSorted_28 (by decide) ?_
    exact W.iret (v := 0) hx hb hr (fun t ht hW => ⟨⟨0, (vp_updL f0 (0 : Int32).toNatClampNeg 1), rfl, ⟨by simp [cd, hc0, hc1], fun _ => rfl⟩, P_at ht hP⟩, hS.F ht⟩) hS.2.2 dL_isSorted_29
set_option maxHeartbeats 4000000 in
set_option maxRecDepth 100000 in
theorem c_L_clear (l : Launch) (hlf : l.stackTraces = false) (dC : Nat → ClassId) (dI : Nat → Nat → Nat) (g : Nat → ClassId) (a : Nat → Nat) (x : Int32) (ou : Nat) (f0 : Nat → Int64) (sz : Nat) : Met l yL_clear wsL_clear ({ frames := 8, cells := 8, slots := 48, locals := 126 }) (va_Pc [.ref (a 0), .int x, .ref ou] (PG (dC, dI) g (offW a g ++ [(ou, .inl (g 2, 1, .inr (.inl f0)))]) sz)) (va_Qi (fun (r : Int32) (fz : Nat → Int64) => r = (cd (TOKb x) true true) ∧ ((cd (TOKb x) true true) = 0 → fz 0 = (0 : Int32).toInt64)) (fun (fz : Nat → Int64) t => va_P (dC, dI) vwCl [(ou, .inl (g 2, 1, .inr (.inl fz)))] t.heap) (va_A (offW a g ++ [(ou, .inl (g 2, 1, .inr (.inl f0)))]) sz)) 8 48 (va_A (offW a g ++ [(ou, .inl (g 2, 1, .inr (.inl f0)))]) sz) := by
  refine mt_ofWH (cc := cL_clear) (maxL := 4) (ret := (some .int)) (by decide) rfl ?_
  intro p e s m args below meth c s₁ B hml hv
  obtain ⟨rfl, hsz, hP, hK, hD0, hG⟩ := hv
  have hx := B.exec
  have hb := B.bytes
  have hr := B.returns
  have hts := atoms_spec (ws := wsL_clear) B.pre
  have hown : s.vm.findClass RL = some m.cls := findClass_of_methodNamed B.named
  have hlocks := B.notSynchronized
  have hTab := vx_table (x := yL_clear) B (hts (Cond.codeWith yL_clear cL_clear 4 (some .int) [(0, 9, 12, 13)]) (List.mem_cons_self))
  subst hsz
  have hD := hD0.self (sz := s.heap.size)
  generalize hAe : va_A (offW a g ++ [(ou, .inl (g 2, 1, .inr (.inl f0)))]) s.heap.size = A at hD hG ⊢
  have hA : ∀ q : Nat, s.heap.size ≤ q → A q := fun q h => by rw [← hAe]; exact Or.inr h
  have hS : va_S A s.heap s.heap [] := va_S.rf
  have hl := lv_entry ([.ref (a 0), .int x, .ref ou]) (n := 4) (Nat.le_of_ble_eq_true rfl)
  rw [lg_entry_eq]
  generalize (lg_sl ([.ref (a 0), .int x, .ref ou]) ++ List.replicate (4 - (lg_sl ([.ref (a 0), .int x, .ref ou])).length) Slot.unset).toArray = ls at hl ⊢
  have hl : lv_has ls 4 [(0, .ref (a 0)), (1, .int x), (2, .ref ou)] := hl
  have hxl0 := hts (Cond.classLink RL 13 "java/lang/IndexOutOfBoundsException") (by decide +kernel)
  refine lv_aload_n hx hb dL_clear_0 rfl (lv_at hl 2 rfl) ?_
  refine lv_iconst (v := 0) hx hb dL_clear_1 (by decide) ?_
  refine lv_aload_n hx hb dL_clear_2 rfl (lv_at hl 0 rfl) ?_
  refine lv_iload_n hx hb dL_clear_3 rfl (lv_at hl 1 rfl) ?_
  have hDc := D_l hD
  have hPc := P_l hP
  have hFc : ∀ q, va_A (offW a g) s.heap.size q → A q := A_all hDc hA hS.1
  refine vx_calli (vx_runV (As := [.int x]) (rest := [.int 0, .ref ou]) ⟨hx, hb, hml, hown, hts⟩ (c_X11_clear l hlf dC dI g a x s.heap.size) (cwV 1 hts gL_clear_X11_clear rfl rfl rfl (by decide +kernel) ⟨Nat.le_of_ble_eq_true rfl, Nat.le_of_ble_eq_true rfl⟩) ⟨PG_blind, va_recv hK hP (ci := 13) (q0 := 0) rfl rfl, PG_call hK hG hS hPc hDc hFc⟩ rfl rfl hl.1 rfl (lv_room (Nat.le_of_ble_eq_true rfl)) dL_clear_4 ⟨Nat.le_of_ble_eq_true rfl, Nat.le_of_ble_eq_true rfl⟩) hS (fun q _ h => hFc q h) hFc (fun q _ h => hFc q h) (fun E ce q9 u t H1 locs1 ht9 hvm hp9 hB9 hz hk hS9 hce hcv hcl => ?_) (fun r_1 u_1 t_1 H_1 L_1 ht_1 hvm_1 hw_1 hB_1 hz_1 hk_1 hS => ?_)
  · have hP := rest_kept hP hD hk
    have hD := D_r hD
    have h9 : E = "java/lang/IndexOutOfBoundsException" ∧ (TOKb x) = false := hB9
    rcases h9 with ⟨rfl, hc0⟩
    · refine vx_catch (own := RL) (name := "java/lang/IndexOutOfBoundsException") (E := "java/lang/IndexOutOfBoundsException") hown [] ⟨0, 9, 12, 13⟩ [] (by rw [hTab]; rfl) (fun z hz => absurd hz List.not_mem_nil) (by decide) (by decide) hxl0 (xc_0 hG) hce hcv hcl ?_
      have hS := hS9
      have ht_1 := ht9
      refine lv_astore_n (lv' := [(3, .ref q9), (0, .ref (a 0)), (1, .int x), (2, .ref ou)]) hx hb dL_clear_12 rfl hl (by decide) rfl (fun ls hl => ?_)
      refine lv_iconst (v := 1) hx hb dL_clear_13 (by decide) ?_
      exact W.iret (v := 1) hx hb hr (fun t ht hW => ⟨⟨1, f0, rfl, ⟨by simp [cd, hc0], fun h => absurd h (by simp [cd, hc0])⟩, P_at ht hP⟩, hS.F ht⟩) hS.2.2 dL_clear_14
  · have hP := rest_kept hP hD hk_1
    have hD := D_r hD
    obtain ⟨hc0, rfl⟩ := hw_1
    refine lv_i2l (v := (0 : Int32).toInt64) hx hb dL_clear_7 rfl ?_
    refine va_last hx hb hK hP hD hS 0 2 rfl rfl (by unfold vp_in; decide) dL_clear_8 (fun H_7 L_7 hP hD hS => ?_)
    have hP : va_P (dC, dI) vwCl [(ou, .inl (g 2, 1, .inr (.inl (vp_updL f0 (0 : Int32).toNatClampNeg ((0 : Int32).toInt64)))))] H_7 := hP
    refine lv_goto (tgt := 15) hx hb dL_clear_9 (by decide) ?_
    refine lv_iconst (v := 0) hx hb dL_clear_15 (by decide) ?_
    exact W.iret (v := 0) hx hb hr (fun t ht hW => ⟨⟨0, (vp_updL f0 (0 : Int32).toNatClampNeg ((0 : Int32).toInt64)), rfl, ⟨by simp [cd, hc0], fun _ => rfl⟩, P_at ht hP⟩, hS.F ht⟩) hS.2.2 dL_clear_16
set_option maxHeartbeats 4000000 in
set_option maxRecDepth 100000 in
theorem c_L_copy (l : Launch) (hlf : l.stackTraces = false) (dC : Nat → ClassId) (dI : Nat → Nat → Nat) (g : Nat → ClassId) (a : Nat → Nat) (x : Int32) (y : Int32) (ou : Nat) (f0 : Nat → Int64) (sz : Nat) : Met l yL_copy wsL_copy ({ frames := 8, cells := 8, slots := 48, locals := 127 }) (va_Pc [.ref (a 0), .int x, .int y, .ref ou] (PG (dC, dI) g (offW a g ++ [(ou, .inl (g 2, 1, .inr (.inl f0)))]) sz)) (va_Qi (fun (r : Int32) (fz : Nat → Int64) => r = (cd (TOKb x && TOKb y) true true) ∧ ((cd (TOKb x && TOKb y) true true) = 0 → fz 0 = (0 : Int32).toInt64)) (fun (fz : Nat → Int64) t => va_P (dC, dI) vwCl [(ou, .inl (g 2, 1, .inr (.inl fz)))] t.heap) (va_A (offW a g ++ [(ou, .inl (g 2, 1, .inr (.inl f0)))]) sz)) 8 48 (va_A (offW a g ++ [(ou, .inl (g 2, 1, .inr (.inl f0)))]) sz) := by
  refine mt_ofWH (cc := cL_copy) (maxL := 5) (ret := (some .int)) (by decide) rfl ?_
  intro p e s m args below meth c s₁ B hml hv
  obtain ⟨rfl, hsz, hP, hK, hD0, hG⟩ := hv
  have hx := B.exec
  have hb := B.bytes
  have hr := B.returns
  have hts := atoms_spec (ws := wsL_copy) B.pre
  have hown : s.vm.findClass RL = some m.cls := findClass_of_methodNamed B.named
  have hlocks := B.notSynchronized
  have hTab := vx_table (x := yL_copy) B (hts (Cond.codeWith yL_copy cL_copy 5 (some .int) [(0, 10, 13, 13)]) (List.mem_cons_self))
  subst hsz
  have hD := hD0.self (sz := s.heap.size)
  generalize hAe : va_A (offW a g ++ [(ou, .inl (g 2, 1, .inr (.inl f0)))]) s.heap.size = A at hD hG ⊢
  have hA : ∀ q : Nat, s.heap.size ≤ q → A q := fun q h => by rw [← hAe]; exact Or.inr h
  have hS : va_S A s.heap s.heap [] := va_S.rf
  have hl := lv_entry ([.ref (a 0), .int x, .int y, .ref ou]) (n := 5) (Nat.le_of_ble_eq_true rfl)
  rw [lg_entry_eq]
  generalize (lg_sl ([.ref (a 0), .int x, .int y, .ref ou]) ++ List.replicate (5 - (lg_sl ([.ref (a 0), .int x, .int y, .ref ou])).length) Slot.unset).toArray = ls at hl ⊢
  have hl : lv_has ls 5 [(0, .ref (a 0)), (1, .int x), (2, .int y), (3, .ref ou)] := hl
  have hxl0 := hts (Cond.classLink RL 13 "java/lang/IndexOutOfBoundsException") (by decide +kernel)
  refine lv_aload_n hx hb dL_copy_0 rfl (lv_at hl 3 rfl) ?_
  refine lv_iconst (v := 0) hx hb dL_copy_1 (by decide) ?_
  refine lv_aload_n hx hb dL_copy_2 rfl (lv_at hl 0 rfl) ?_
  refine lv_iload_n hx hb dL_copy_3 rfl (lv_at hl 1 rfl) ?_
  refine lv_iload_n hx hb dL_copy_4 rfl (lv_at hl 2 rfl) ?_
  have hDc := D_l hD
  have hPc := P_l hP
  have hFc : ∀ q, va_A (offW a g) s.heap.size q → A q := A_all hDc hA hS.1
  refine vx_calli (vx_runV (As := [.int x, .int y]) (rest := [.int 0, .ref ou]) ⟨hx, hb, hml, hown, hts⟩ (c_X11_copy l hlf dC dI g a x y s.heap.size) (cwV 2 hts gL_copy_X11_copy rfl rfl rfl (by decide +kernel) ⟨Nat.le_of_ble_eq_true rfl, Nat.le_of_ble_eq_true rfl⟩) ⟨PG_blind, va_recv hK hP (ci := 13) (q0 := 0) rfl rfl, PG_call hK hG hS hPc hDc hFc⟩ rfl rfl hl.1 rfl (lv_room (Nat.le_of_ble_eq_true rfl)) dL_copy_5 ⟨Nat.le_of_ble_eq_true rfl, Nat.le_of_ble_eq_true rfl⟩) hS (fun q _ h => hFc q h) hFc (fun q _ h => hFc q h) (fun E ce q9 u t H1 locs1 ht9 hvm hp9 hB9 hz hk hS9 hce hcv hcl => ?_) (fun r_1 u_1 t_1 H_1 L_1 ht_1 hvm_1 hw_1 hB_1 hz_1 hk_1 hS => ?_)
  · have hP := rest_kept hP hD hk
    have hD := D_r hD
    have h9 : E = "java/lang/IndexOutOfBoundsException" ∧ (TOKb x && TOKb y) = false := hB9
    rcases h9 with ⟨rfl, hc0⟩
    · refine vx_catch (own := RL) (name := "java/lang/IndexOutOfBoundsException") (E := "java/lang/IndexOutOfBoundsException") hown [] ⟨0, 10, 13, 13⟩ [] (by rw [hTab]; rfl) (fun z hz => absurd hz List.not_mem_nil) (by decide) (by decide) hxl0 (xc_0 hG) hce hcv hcl ?_
      have hS := hS9
      have ht_1 := ht9
      refine lv_astore (lv' := [(4, .ref q9), (0, .ref (a 0)), (1, .int x), (2, .int y), (3, .ref ou)]) hx hb dL_copy_13 hl (by decide) rfl (fun ls hl => ?_)
      refine lv_iconst (v := 1) hx hb dL_copy_15 (by decide) ?_
      exact W.iret (v := 1) hx hb hr (fun t ht hW => ⟨⟨1, f0, rfl, ⟨by simp [cd, hc0], fun h => absurd h (by simp [cd, hc0])⟩, P_at ht hP⟩, hS.F ht⟩) hS.2.2 dL_copy_16
  · have hP := rest_kept hP hD hk_1
    have hD := D_r hD
    obtain ⟨hc0, rfl⟩ := hw_1
    refine lv_i2l (v := (0 : Int32).toInt64) hx hb dL_copy_8 rfl ?_
    refine va_last hx hb hK hP hD hS 0 2 rfl rfl (by unfold vp_in; decide) dL_copy_9 (fun H_7 L_7 hP hD hS => ?_)
    have hP : va_P (dC, dI) vwCl [(ou, .inl (g 2, 1, .inr (.inl (vp_updL f0 (0 : Int32).toNatClampNeg ((0 : Int32).toInt64)))))] H_7 := hP
    refine lv_goto (tgt := 17) hx hb dL_copy_10 (by decide) ?_
    refine lv_iconst (v := 0) hx hb dL_copy_17 (by decide) ?_
    exact W.iret (v := 0) hx hb hr (fun t ht hW => ⟨⟨0, (vp_updL f0 (0 : Int32).toNatClampNeg ((0 : Int32).toInt64)), rfl, ⟨by simp [cd, hc0], fun _ => rfl⟩, P_at ht hP⟩, hS.F ht⟩) hS.2.2 dL_copy_18
set_option maxHeartbeats 4000000 in
set_option maxRecDepth 100000 in
theorem c_L_turn (l : Launch) (hlf : l.stackTraces = false) (dC : Nat → ClassId) (dI : Nat → Nat → Nat) (g : Nat → ClassId) (a : Nat → Nat) (x : Int32) (ou : Nat) (f0 : Nat → Int64) (sz : Nat) : Met l yL_turn wsL_turn ({ frames := 8, cells := 8, slots := 48, locals := 125 }) (va_Pc [.ref (a 0), .int x, .ref ou] (PG (dC, dI) g (offW a g ++ [(ou, .inl (g 2, 1, .inr (.inl f0)))]) sz)) (va_Qi (fun (r : Int32) (fz : Nat → Int64) => r = (cd (TOKb x) true true) ∧ ((cd (TOKb x) true true) = 0 → fz 0 = (0 : Int32).toInt64)) (fun (fz : Nat → Int64) t => va_P (dC, dI) vwCl [(ou, .inl (g 2, 1, .inr (.inl fz)))] t.heap) (va_A (offW a g ++ [(ou, .inl (g 2, 1, .inr (.inl f0)))]) sz)) 8 48 (va_A (offW a g ++ [(ou, .inl (g 2, 1, .inr (.inl f0)))]) sz) := by
  refine mt_ofWH (cc := cL_turn) (maxL := 4) (ret := (some .int)) (by decide) rfl ?_
  intro p e s m args below meth c s₁ B hml hv
  obtain ⟨rfl, hsz, hP, hK, hD0, hG⟩ := hv
  have hx := B.exec
  have hb := B.bytes
  have hr := B.returns
  have hts := atoms_spec (ws := wsL_turn) B.pre
  have hown : s.vm.findClass RL = some m.cls := findClass_of_methodNamed B.named
  have hlocks := B.notSynchronized
  have hTab := vx_table (x := yL_turn) B (hts (Cond.codeWith yL_turn cL_turn 4 (some .int) [(0, 9, 12, 13)]) (List.mem_cons_self))
  subst hsz
  have hD := hD0.self (sz := s.heap.size)
  generalize hAe : va_A (offW a g ++ [(ou, .inl (g 2, 1, .inr (.inl f0)))]) s.heap.size = A at hD hG ⊢
  have hA : ∀ q : Nat, s.heap.size ≤ q → A q := fun q h => by rw [← hAe]; exact Or.inr h
  have hS : va_S A s.heap s.heap [] := va_S.rf
  have hl := lv_entry ([.ref (a 0), .int x, .ref ou]) (n := 4) (Nat.le_of_ble_eq_true rfl)
  rw [lg_entry_eq]
  generalize (lg_sl ([.ref (a 0), .int x, .ref ou]) ++ List.replicate (4 - (lg_sl ([.ref (a 0), .int x, .ref ou])).length) Slot.unset).toArray = ls at hl ⊢
  have hl : lv_has ls 4 [(0, .ref (a 0)), (1, .int x), (2, .ref ou)] := hl
  have hxl0 := hts (Cond.classLink RL 13 "java/lang/IndexOutOfBoundsException") (by decide +kernel)
  refine lv_aload_n hx hb dL_turn_0 rfl (lv_at hl 2 rfl) ?_
  refine lv_iconst (v := 0) hx hb dL_turn_1 (by decide) ?_
  refine lv_aload_n hx hb dL_turn_2 rfl (lv_at hl 0 rfl) ?_
  refine lv_iload_n hx hb dL_turn_3 rfl (lv_at hl 1 rfl) ?_
  have hDc := D_l hD
  have hPc := P_l hP
  have hFc : ∀ q, va_A (offW a g) s.heap.size q → A q := A_all hDc hA hS.1
  refine vx_calli (vx_runV (As := [.int x]) (rest := [.int 0, .ref ou]) ⟨hx, hb, hml, hown, hts⟩ (c_X11_turn l hlf dC dI g a x s.heap.size) (cwV 1 hts gL_turn_X11_turn rfl rfl rfl (by decide +kernel) ⟨Nat.le_of_ble_eq_true rfl, Nat.le_of_ble_eq_true rfl⟩) ⟨PG_blind, va_recv hK hP (ci := 13) (q0 := 0) rfl rfl, PG_call hK hG hS hPc hDc hFc⟩ rfl rfl hl.1 rfl (lv_room (Nat.le_of_ble_eq_true rfl)) dL_turn_4 ⟨Nat.le_of_ble_eq_true rfl, Nat.le_of_ble_eq_true rfl⟩) hS (fun q _ h => hFc q h) hFc (fun q _ h => hFc q h) (fun E ce q9 u t H1 locs1 ht9 hvm hp9 hB9 hz hk hS9 hce hcv hcl => ?_) (fun r_1 u_1 t_1 H_1 L_1 ht_1 hvm_1 hw_1 hB_1 hz_1 hk_1 hS => ?_)
  · have hP := rest_kept hP hD hk
    have hD := D_r hD
    have h9 : E = "java/lang/IndexOutOfBoundsException" ∧ (TOKb x) = false := hB9
    rcases h9 with ⟨rfl, hc0⟩
    · refine vx_catch (own := RL) (name := "java/lang/IndexOutOfBoundsException") (E := "java/lang/IndexOutOfBoundsException") hown [] ⟨0, 9, 12, 13⟩ [] (by rw [hTab]; rfl) (fun z hz => absurd hz List.not_mem_nil) (by decide) (by decide) hxl0 (xc_0 hG) hce hcv hcl ?_
      have hS := hS9
      have ht_1 := ht9
      refine lv_astore_n (lv' := [(3, .ref q9), (0, .ref (a 0)), (1, .int x), (2, .ref ou)]) hx hb dL_turn_12 rfl hl (by decide) rfl (fun ls hl => ?_)
      refine lv_iconst (v := 1) hx hb dL_turn_13 (by decide) ?_
      exact W.iret (v := 1) hx hb hr (fun t ht hW => ⟨⟨1, f0, rfl, ⟨by simp [cd, hc0], fun h => absurd h (by simp [cd, hc0])⟩, P_at ht hP⟩, hS.F ht⟩) hS.2.2 dL_turn_14
  · have hP := rest_kept hP hD hk_1
    have hD := D_r hD
    obtain ⟨hc0, rfl⟩ := hw_1
    refine lv_i2l (v := (0 : Int32).toInt64) hx hb dL_turn_7 rfl ?_
    refine va_last hx hb hK hP hD hS 0 2 rfl rfl (by unfold vp_in; decide) dL_turn_8 (fun H_7 L_7 hP hD hS => ?_)
    have hP : va_P (dC, dI) vwCl [(ou, .inl (g 2, 1, .inr (.inl (vp_updL f0 (0 : Int32).toNatClampNeg ((0 : Int32).toInt64)))))] H_7 := hP
    refine lv_goto (tgt := 15) hx hb dL_turn_9 (by decide) ?_
    refine lv_iconst (v := 0) hx hb dL_turn_15 (by decide) ?_
    exact W.iret (v := 0) hx hb hr (fun t ht hW => ⟨⟨0, (vp_updL f0 (0 : Int32).toNatClampNeg ((0 : Int32).toInt64)), rfl, ⟨by simp [cd, hc0], fun _ => rfl⟩, P_at ht hP⟩, hS.F ht⟩) hS.2.2 dL_turn_16
set_option maxHeartbeats 4000000 in
set_option maxRecDepth 100000 in
theorem c_L_setRuns (l : Launch) (hlf : l.stackTraces = false) (dC : Nat → ClassId) (dI : Nat → Nat → Nat) (g : Nat → ClassId) (a : Nat → Nat) (x : Int32) (rw : Int32) (me : Int32) (ou : Nat) (f0 : Nat → Int64) (sz : Nat) : Met l yL_setRuns wsL_setRuns ({ frames := 8, cells := 8, slots := 48, locals := 129 }) (va_Pc [.ref (a 0), .int x, .int rw, .int me, .ref ou] (PG (dC, dI) g (offW a g ++ [(ou, .inl (g 2, 1, .inr (.inl f0)))]) sz)) (va_Qi (fun (r : Int32) (fz : Nat → Int64) => r = (cd (rngb x 0 1 && rngb rw 0 2 && rngb me 1 50) true true) ∧ ((cd (rngb x 0 1 && rngb rw 0 2 && rngb me 1 50) true true) = 0 → fz 0 = (4 : Int32).toInt64)) (fun (fz : Nat → Int64) t => va_P (dC, dI) vwCl [(ou, .inl (g 2, 1, .inr (.inl fz)))] t.heap) (va_A (offW a g ++ [(ou, .inl (g 2, 1, .inr (.inl f0)))]) sz)) 8 48 (va_A (offW a g ++ [(ou, .inl (g 2, 1, .inr (.inl f0)))]) sz) := by
  refine mt_ofWH (cc := cL_setRuns) (maxL := 6) (ret := (some .int)) (by decide) rfl ?_
  intro p e s m args below meth c s₁ B hml hv
  obtain ⟨rfl, hsz, hP, hK, hD0, hG⟩ := hv
  have hx := B.exec
  have hb := B.bytes
  have hr := B.returns
  have hts := atoms_spec (ws := wsL_setRuns) B.pre
  have hown : s.vm.findClass RL = some m.cls := findClass_of_methodNamed B.named
  have hlocks := B.notSynchronized
  have hTab := vx_table (x := yL_setRuns) B (hts (Cond.codeWith yL_setRuns cL_setRuns 6 (some .int) [(0, 12, 15, 15)]) (List.mem_cons_self))
  subst hsz
  have hD := hD0.self (sz := s.heap.size)
  generalize hAe : va_A (offW a g ++ [(ou, .inl (g 2, 1, .inr (.inl f0)))]) s.heap.size = A at hD hG ⊢
  have hA : ∀ q : Nat, s.heap.size ≤ q → A q := fun q h => by rw [← hAe]; exact Or.inr h
  have hS : va_S A s.heap s.heap [] := va_S.rf
  have hl := lv_entry ([.ref (a 0), .int x, .int rw, .int me, .ref ou]) (n := 6) (Nat.le_of_ble_eq_true rfl)
  rw [lg_entry_eq]
  generalize (lg_sl ([.ref (a 0), .int x, .int rw, .int me, .ref ou]) ++ List.replicate (6 - (lg_sl ([.ref (a 0), .int x, .int rw, .int me, .ref ou])).length) Slot.unset).toArray = ls at hl ⊢
  have hl : lv_has ls 6 [(0, .ref (a 0)), (1, .int x), (2, .int rw), (3, .int me), (4, .ref ou)] := hl
  have hxl0 := hts (Cond.classLink RL 15 "java/lang/IllegalArgumentException") (by decide +kernel)
  refine lv_aload hx hb dL_setRuns_0 (lv_at hl 4 rfl) ?_
  refine lv_iconst (v := 0) hx hb dL_setRuns_2 (by decide) ?_
  refine lv_aload_n hx hb dL_setRuns_3 rfl (lv_at hl 0 rfl) ?_
  refine lv_iload_n hx hb dL_setRuns_4 rfl (lv_at hl 1 rfl) ?_
  refine lv_iload_n hx hb dL_setRuns_5 rfl (lv_at hl 2 rfl) ?_
  refine lv_iload_n hx hb dL_setRuns_6 rfl (lv_at hl 3 rfl) ?_
  have hDc := D_l hD
  have hPc := P_l hP
  have hFc : ∀ q, va_A (offW a g) s.heap.size q → A q := A_all hDc hA hS.1
  refine vx_calli (vx_runV (As := [.int x, .int rw, .int me]) (rest := [.int 0, .ref ou]) ⟨hx, hb, hml, hown, hts⟩ (c_X11_setRuns l hlf dC dI g a x rw me s.heap.size) (cwV 3 hts gL_setRuns_X11_setRuns rfl rfl rfl (by decide +kernel) ⟨Nat.le_of_ble_eq_true rfl, Nat.le_of_ble_eq_true rfl⟩) ⟨PG_blind, va_recv hK hP (ci := 13) (q0 := 0) rfl rfl, PG_call hK hG hS hPc hDc hFc⟩ rfl rfl hl.1 rfl (lv_room (Nat.le_of_ble_eq_true rfl)) dL_setRuns_7 ⟨Nat.le_of_ble_eq_true rfl, Nat.le_of_ble_eq_true rfl⟩) hS (fun q _ h => hFc q h) hFc (fun q _ h => hFc q h) (fun E ce q9 u t H1 locs1 ht9 hvm hp9 hB9 hz hk hS9 hce hcv hcl => ?_) (fun r_1 u_1 t_1 H_1 L_1 ht_1 hvm_1 hw_1 hB_1 hz_1 hk_1 hS => ?_)
  · have hP := rest_kept hP hD hk
    have hD := D_r hD
    have h9 : E = "java/lang/IllegalArgumentException" ∧ (rngb x 0 1 && rngb rw 0 2 && rngb me 1 50) = false := hB9
    rcases h9 with ⟨rfl, hc0⟩
    · refine vx_catch (own := RL) (name := "java/lang/IllegalArgumentException") (E := "java/lang/IllegalArgumentException") hown [] ⟨0, 12, 15, 15⟩ [] (by rw [hTab]; rfl) (fun z hz => absurd hz List.not_mem_nil) (by decide) (by decide) hxl0 (xc_1 hG) hce hcv hcl ?_
      have hS := hS9
      have ht_1 := ht9
      refine lv_astore (lv' := [(5, .ref q9), (0, .ref (a 0)), (1, .int x), (2, .int rw), (3, .int me), (4, .ref ou)]) hx hb dL_setRuns_15 hl (by decide) rfl (fun ls hl => ?_)
      refine lv_iconst (v := 1) hx hb dL_setRuns_17 (by decide) ?_
      exact W.iret (v := 1) hx hb hr (fun t ht hW => ⟨⟨1, f0, rfl, ⟨by simp [cd, hc0], fun h => absurd h (by simp [cd, hc0])⟩, P_at ht hP⟩, hS.F ht⟩) hS.2.2 dL_setRuns_18
  · have hP := rest_kept hP hD hk_1
    have hD := D_r hD
    obtain ⟨hc0, rfl⟩ := hw_1
    refine lv_i2l (v := (4 : Int32).toInt64) hx hb dL_setRuns_10 rfl ?_
    refine va_last hx hb hK hP hD hS 0 2 rfl rfl (by unfold vp_in; decide) dL_setRuns_11 (fun H_7 L_7 hP hD hS => ?_)
    have hP : va_P (dC, dI) vwCl [(ou, .inl (g 2, 1, .inr (.inl (vp_updL f0 (0 : Int32).toNatClampNeg ((4 : Int32).toInt64)))))] H_7 := hP
    refine lv_goto (tgt := 19) hx hb dL_setRuns_12 (by decide) ?_
    refine lv_iconst (v := 0) hx hb dL_setRuns_19 (by decide) ?_
    exact W.iret (v := 0) hx hb hr (fun t ht hW => ⟨⟨0, (vp_updL f0 (0 : Int32).toNatClampNeg ((4 : Int32).toInt64)), rfl, ⟨by simp [cd, hc0], fun _ => rfl⟩, P_at ht hP⟩, hS.F ht⟩) hS.2.2 dL_setRuns_20
set_option maxHeartbeats 4000000 in
set_option maxRecDepth 100000 in
theorem c_L_setMerge (l : Launch) (hlf : l.stackTraces = false) (dC : Nat → ClassId) (dI : Nat → Nat → Nat) (g : Nat → ClassId) (a : Nat → Nat) (x : Int32) (wy : Int32) (ou : Nat) (f0 : Nat → Int64) (sz : Nat) : Met l yL_setMerge wsL_setMerge ({ frames := 8, cells := 8, slots := 48, locals := 128 }) (va_Pc [.ref (a 0), .int x, .int wy, .ref ou] (PG (dC, dI) g (offW a g ++ [(ou, .inl (g 2, 1, .inr (.inl f0)))]) sz)) (va_Qi (fun (r : Int32) (fz : Nat → Int64) => r = (cd (rngb x 0 2 && rngb wy 2 6) true true) ∧ ((cd (rngb x 0 2 && rngb wy 2 6) true true) = 0 → fz 0 = (2 : Int32).toInt64)) (fun (fz : Nat → Int64) t => va_P (dC, dI) vwCl [(ou, .inl (g 2, 1, .inr (.inl fz)))] t.heap) (va_A (offW a g ++ [(ou, .inl (g 2, 1, .inr (.inl f0)))]) sz)) 8 48 (va_A (offW a g ++ [(ou, .inl (g 2, 1, .inr (.inl f0)))]) sz) := by
  refine mt_ofWH (cc := cL_setMerge) (maxL := 5) (ret := (some .int)) (by decide) rfl ?_
  intro p e s m args below meth c s₁ B hml hv
  obtain ⟨rfl, hsz, hP, hK, hD0, hG⟩ := hv
  have hx := B.exec
  have hb := B.bytes
  have hr := B.returns
  have hts := atoms_spec (ws := wsL_setMerge) B.pre
  have hown : s.vm.findClass RL = some m.cls := findClass_of_methodNamed B.named
  have hlocks := B.notSynchronized
  have hTab := vx_table (x := yL_setMerge) B (hts (Cond.codeWith yL_setMerge cL_setMerge 5 (some .int) [(0, 10, 13, 15)]) (List.mem_cons_self))
  subst hsz
  have hD := hD0.self (sz := s.heap.size)
  generalize hAe : va_A (offW a g ++ [(ou, .inl (g 2, 1, .inr (.inl f0)))]) s.heap.size = A at hD hG ⊢
  have hA : ∀ q : Nat, s.heap.size ≤ q → A q := fun q h => by rw [← hAe]; exact Or.inr h
  have hS : va_S A s.heap s.heap [] := va_S.rf
  have hl := lv_entry ([.ref (a 0), .int x, .int wy, .ref ou]) (n := 5) (Nat.le_of_ble_eq_true rfl)
  rw [lg_entry_eq]
  generalize (lg_sl ([.ref (a 0), .int x, .int wy, .ref ou]) ++ List.replicate (5 - (lg_sl ([.ref (a 0), .int x, .int wy, .ref ou])).length) Slot.unset).toArray = ls at hl ⊢
  have hl : lv_has ls 5 [(0, .ref (a 0)), (1, .int x), (2, .int wy), (3, .ref ou)] := hl
  have hxl0 := hts (Cond.classLink RL 15 "java/lang/IllegalArgumentException") (by decide +kernel)
  refine lv_aload_n hx hb dL_setMerge_0 rfl (lv_at hl 3 rfl) ?_
  refine lv_iconst (v := 0) hx hb dL_setMerge_1 (by decide) ?_
  refine lv_aload_n hx hb dL_setMerge_2 rfl (lv_at hl 0 rfl) ?_
  refine lv_iload_n hx hb dL_setMerge_3 rfl (lv_at hl 1 rfl) ?_
  refine lv_iload_n hx hb dL_setMerge_4 rfl (lv_at hl 2 rfl) ?_
  have hDc := D_l hD
  have hPc := P_l hP
  have hFc : ∀ q, va_A (offW a g) s.heap.size q → A q := A_all hDc hA hS.1
  refine vx_calli (vx_runV (As := [.int x, .int wy]) (rest := [.int 0, .ref ou]) ⟨hx, hb, hml, hown, hts⟩ (c_X11_setMerge l hlf dC dI g a x wy s.heap.size) (cwV 2 hts gL_setMerge_X11_setMerge rfl rfl rfl (by decide +kernel) ⟨Nat.le_of_ble_eq_true rfl, Nat.le_of_ble_eq_true rfl⟩) ⟨PG_blind, va_recv hK hP (ci := 13) (q0 := 0) rfl rfl, PG_call hK hG hS hPc hDc hFc⟩ rfl rfl hl.1 rfl (lv_room (Nat.le_of_ble_eq_true rfl)) dL_setMerge_5 ⟨Nat.le_of_ble_eq_true rfl, Nat.le_of_ble_eq_true rfl⟩) hS (fun q _ h => hFc q h) hFc (fun q _ h => hFc q h) (fun E ce q9 u t H1 locs1 ht9 hvm hp9 hB9 hz hk hS9 hce hcv hcl => ?_) (fun r_1 u_1 t_1 H_1 L_1 ht_1 hvm_1 hw_1 hB_1 hz_1 hk_1 hS => ?_)
  · have hP := rest_kept hP hD hk
    have hD := D_r hD
    have h9 : E = "java/lang/IllegalArgumentException" ∧ (rngb x 0 2 && rngb wy 2 6) = false := hB9
    rcases h9 with ⟨rfl, hc0⟩
    · refine vx_catch (own := RL) (name := "java/lang/IllegalArgumentException") (E := "java/lang/IllegalArgumentException") hown [] ⟨0, 10, 13, 15⟩ [] (by rw [hTab]; rfl) (fun z hz => absurd hz List.not_mem_nil) (by decide) (by decide) hxl0 (xc_1 hG) hce hcv hcl ?_
      have hS := hS9
      have ht_1 := ht9
      refine lv_astore (lv' := [(4, .ref q9), (0, .ref (a 0)), (1, .int x), (2, .int wy), (3, .ref ou)]) hx hb dL_setMerge_13 hl (by decide) rfl (fun ls hl => ?_)
      refine lv_iconst (v := 1) hx hb dL_setMerge_15 (by decide) ?_
      exact W.iret (v := 1) hx hb hr (fun t ht hW => ⟨⟨1, f0, rfl, ⟨by simp [cd, hc0], fun h => absurd h (by simp [cd, hc0])⟩, P_at ht hP⟩, hS.F ht⟩) hS.2.2 dL_setMerge_16
  · have hP := rest_kept hP hD hk_1
    have hD := D_r hD
    obtain ⟨hc0, rfl⟩ := hw_1
    refine lv_i2l (v := (2 : Int32).toInt64) hx hb dL_setMerge_8 rfl ?_
    refine va_last hx hb hK hP hD hS 0 2 rfl rfl (by unfold vp_in; decide) dL_setMerge_9 (fun H_7 L_7 hP hD hS => ?_)
    have hP : va_P (dC, dI) vwCl [(ou, .inl (g 2, 1, .inr (.inl (vp_updL f0 (0 : Int32).toNatClampNeg ((2 : Int32).toInt64)))))] H_7 := hP
    refine lv_goto (tgt := 17) hx hb dL_setMerge_10 (by decide) ?_
    refine lv_iconst (v := 0) hx hb dL_setMerge_17 (by decide) ?_
    exact W.iret (v := 0) hx hb hr (fun t ht hW => ⟨⟨0, (vp_updL f0 (0 : Int32).toNatClampNeg ((2 : Int32).toInt64)), rfl, ⟨by simp [cd, hc0], fun _ => rfl⟩, P_at ht hP⟩, hS.F ht⟩) hS.2.2 dL_setMerge_18
set_option maxHeartbeats 4000000 in
set_option maxRecDepth 100000 in
theorem c_L_setting (l : Launch) (hlf : l.stackTraces = false) (dC : Nat → ClassId) (dI : Nat → Nat → Nat) (g : Nat → ClassId) (a : Nat → Nat) (x : Int32) (ou : Nat) (f0 : Nat → Int64) (sz : Nat) : Met l yL_setting wsL_setting ({ frames := 7, cells := 8, slots := 48, locals := 103 }) (va_Pc [.ref (a 0), .int x, .ref ou] (PG (dC, dI) g (offW a g ++ [(ou, .inl (g 2, 1, .inr (.inl f0)))]) sz)) (va_Qi (fun (r : Int32) (fz : Nat → Int64) => r = (cd (rngb x 0 4) true true) ∧ ((cd (rngb x 0 4) true true) = 0 → fz 0 = (stv x : Int32).toInt64)) (fun (fz : Nat → Int64) t => va_P (dC, dI) vwCl [(ou, .inl (g 2, 1, .inr (.inl fz)))] t.heap) (va_A (offW a g ++ [(ou, .inl (g 2, 1, .inr (.inl f0)))]) sz)) 8 48 (va_A (offW a g ++ [(ou, .inl (g 2, 1, .inr (.inl f0)))]) sz) := by
  refine mt_ofWH (cc := cL_setting) (maxL := 4) (ret := (some .int)) (by decide) rfl ?_
  intro p e s m args below meth c s₁ B hml hv
  obtain ⟨rfl, hsz, hP, hK, hD0, hG⟩ := hv
  have hx := B.exec
  have hb := B.bytes
  have hr := B.returns
  have hts := atoms_spec (ws := wsL_setting) B.pre
  have hown : s.vm.findClass RL = some m.cls := findClass_of_methodNamed B.named
  have hlocks := B.notSynchronized
  have hTab := vx_table (x := yL_setting) B (hts (Cond.codeWith yL_setting cL_setting 4 (some .int) [(0, 9, 12, 15)]) (List.mem_cons_self))
  subst hsz
  have hD := hD0.self (sz := s.heap.size)
  generalize hAe : va_A (offW a g ++ [(ou, .inl (g 2, 1, .inr (.inl f0)))]) s.heap.size = A at hD hG ⊢
  have hA : ∀ q : Nat, s.heap.size ≤ q → A q := fun q h => by rw [← hAe]; exact Or.inr h
  have hS : va_S A s.heap s.heap [] := va_S.rf
  have hl := lv_entry ([.ref (a 0), .int x, .ref ou]) (n := 4) (Nat.le_of_ble_eq_true rfl)
  rw [lg_entry_eq]
  generalize (lg_sl ([.ref (a 0), .int x, .ref ou]) ++ List.replicate (4 - (lg_sl ([.ref (a 0), .int x, .ref ou])).length) Slot.unset).toArray = ls at hl ⊢
  have hl : lv_has ls 4 [(0, .ref (a 0)), (1, .int x), (2, .ref ou)] := hl
  have hxl0 := hts (Cond.classLink RL 15 "java/lang/IllegalArgumentException") (by decide +kernel)
  refine lv_aload_n hx hb dL_setting_0 rfl (lv_at hl 2 rfl) ?_
  refine lv_iconst (v := 0) hx hb dL_setting_1 (by decide) ?_
  refine lv_aload_n hx hb dL_setting_2 rfl (lv_at hl 0 rfl) ?_
  refine lv_iload_n hx hb dL_setting_3 rfl (lv_at hl 1 rfl) ?_
  have hDc := D_l hD
  have hPc := P_l hP
  have hFc : ∀ q, va_A (offW a g) s.heap.size q → A q := A_all hDc hA hS.1
  refine vx_calli (vx_runV (As := [.int x]) (rest := [.int 0, .ref ou]) ⟨hx, hb, hml, hown, hts⟩ (c_X11_setting l hlf dC dI g a x s.heap.size) (cwV 1 hts gL_setting_X11_setting rfl rfl rfl (by decide +kernel) ⟨Nat.le_of_ble_eq_true rfl, Nat.le_of_ble_eq_true rfl⟩) ⟨PG_blind, va_recv hK hP (ci := 13) (q0 := 0) rfl rfl, PG_call hK hG hS hPc hDc hFc⟩ rfl rfl hl.1 rfl (lv_room (Nat.le_of_ble_eq_true rfl)) dL_setting_4 ⟨Nat.le_of_ble_eq_true rfl, Nat.le_of_ble_eq_true rfl⟩) hS (fun q _ h => hFc q h) hFc (fun q _ h => hFc q h) (fun E ce q9 u t H1 locs1 ht9 hvm hp9 hB9 hz hk hS9 hce hcv hcl => ?_) (fun r_1 u_1 t_1 H_1 L_1 ht_1 hvm_1 hw_1 hB_1 hz_1 hk_1 hS => ?_)
  · have hP := rest_kept hP hD hk
    have hD := D_r hD
    have h9 : E = "java/lang/IllegalArgumentException" ∧ (rngb x 0 4) = false := hB9
    rcases h9 with ⟨rfl, hc0⟩
    · refine vx_catch (own := RL) (name := "java/lang/IllegalArgumentException") (E := "java/lang/IllegalArgumentException") hown [] ⟨0, 9, 12, 15⟩ [] (by rw [hTab]; rfl) (fun z hz => absurd hz List.not_mem_nil) (by decide) (by decide) hxl0 (xc_1 hG) hce hcv hcl ?_
      have hS := hS9
      have ht_1 := ht9
      refine lv_astore_n (lv' := [(3, .ref q9), (0, .ref (a 0)), (1, .int x), (2, .ref ou)]) hx hb dL_setting_12 rfl hl (by decide) rfl (fun ls hl => ?_)
      refine lv_iconst (v := 1) hx hb dL_setting_13 (by decide) ?_
      exact W.iret (v := 1) hx hb hr (fun t ht hW => ⟨⟨1, f0, rfl, ⟨by simp [cd, hc0], fun h => absurd h (by simp [cd, hc0])⟩, P_at ht hP⟩, hS.F ht⟩) hS.2.2 dL_setting_14
  · have hP := rest_kept hP hD hk_1
    have hD := D_r hD
    obtain ⟨hc0, rfl⟩ := hw_1
    refine lv_i2l (v := (stv x).toInt64) hx hb dL_setting_7 rfl ?_
    refine va_last hx hb hK hP hD hS 0 2 rfl rfl (by unfold vp_in; decide) dL_setting_8 (fun H_7 L_7 hP hD hS => ?_)
    have hP : va_P (dC, dI) vwCl [(ou, .inl (g 2, 1, .inr (.inl (vp_updL f0 (0 : Int32).toNatClampNeg ((stv x).toInt64)))))] H_7 := hP
    refine lv_goto (tgt := 15) hx hb dL_setting_9 (by decide) ?_
    refine lv_iconst (v := 0) hx hb dL_setting_15 (by decide) ?_
    exact W.iret (v := 0) hx hb hr (fun t ht hW => ⟨⟨0, (vp_updL f0 (0 : Int32).toNatClampNeg ((stv x).toInt64)), rfl, ⟨by simp [cd, hc0], fun _ => rfl⟩, P_at ht hP⟩, hS.F ht⟩) hS.2.2 dL_setting_16
set_option maxHeartbeats 4000000 in
set_option maxRecDepth 100000 in
theorem c_L_runs (l : Launch) (hlf : l.stackTraces = false) (dC : Nat → ClassId) (dI : Nat → Nat → Nat) (g : Nat → ClassId) (a : Nat → Nat) (x : Int32) (ou : Nat) (f0 : Nat → Int64) (sz : Nat) : Met l yL_runs wsL_runs ({ frames := 8, cells := 8, slots := 48, locals := 124 }) (va_Pc [.ref (a 0), .int x, .ref ou] (PG (dC, dI) g (offW a g ++ [(ou, .inl (g 2, 1, .inr (.inl f0)))]) sz)) (va_Qi (fun (r : Int32) (fz : Nat → Int64) => r = (cd (TOKb x) true true) ∧ ((cd (TOKb x) true true) = 0 → fz 0 = (0 : Int32).toInt64)) (fun (fz : Nat → Int64) t => va_P (dC, dI) vwCl [(ou, .inl (g 2, 1, .inr (.inl fz)))] t.heap) (va_A (offW a g ++ [(ou, .inl (g 2, 1, .inr (.inl f0)))]) sz)) 8 48 (va_A (offW a g ++ [(ou, .inl (g 2, 1, .inr (.inl f0)))]) sz) := by
  refine mt_ofWH (cc := cL_runs) (maxL := 4) (ret := (some .int)) (by decide) rfl ?_
  intro p e s m args below meth c s₁ B hml hv
  obtain ⟨rfl, hsz, hP, hK, hD0, hG⟩ := hv
  have hx := B.exec
  have hb := B.bytes
  have hr := B.returns
  have hts := atoms_spec (ws := wsL_runs) B.pre
  have hown : s.vm.findClass RL = some m.cls := findClass_of_methodNamed B.named
  have hlocks := B.notSynchronized
  have hTab := vx_table (x := yL_runs) B (hts (Cond.codeWith yL_runs cL_runs 4 (some .int) [(0, 9, 12, 13)]) (List.mem_cons_self))
  subst hsz
  have hD := hD0.self (sz := s.heap.size)
  generalize hAe : va_A (offW a g ++ [(ou, .inl (g 2, 1, .inr (.inl f0)))]) s.heap.size = A at hD hG ⊢
  have hA : ∀ q : Nat, s.heap.size ≤ q → A q := fun q h => by rw [← hAe]; exact Or.inr h
  have hS : va_S A s.heap s.heap [] := va_S.rf
  have hl := lv_entry ([.ref (a 0), .int x, .ref ou]) (n := 4) (Nat.le_of_ble_eq_true rfl)
  rw [lg_entry_eq]
  generalize (lg_sl ([.ref (a 0), .int x, .ref ou]) ++ List.replicate (4 - (lg_sl ([.ref (a 0), .int x, .ref ou])).length) Slot.unset).toArray = ls at hl ⊢
  have hl : lv_has ls 4 [(0, .ref (a 0)), (1, .int x), (2, .ref ou)] := hl
  have hxl0 := hts (Cond.classLink RL 13 "java/lang/IndexOutOfBoundsException") (by decide +kernel)
  refine lv_aload_n hx hb dL_runs_0 rfl (lv_at hl 2 rfl) ?_
  refine lv_iconst (v := 0) hx hb dL_runs_1 (by decide) ?_
  refine lv_aload_n hx hb dL_runs_2 rfl (lv_at hl 0 rfl) ?_
  refine lv_iload_n hx hb dL_runs_3 rfl (lv_at hl 1 rfl) ?_
  have hDc := D_l hD
  have hPc := P_l hP
  have hFc : ∀ q, va_A (offW a g) s.heap.size q → A q := A_all hDc hA hS.1
  refine vx_calli (vx_runV (As := [.int x]) (rest := [.int 0, .ref ou]) ⟨hx, hb, hml, hown, hts⟩ (c_X11_runs l hlf dC dI g a x s.heap.size) (cwV 1 hts gL_runs_X11_runs rfl rfl rfl (by decide +kernel) ⟨Nat.le_of_ble_eq_true rfl, Nat.le_of_ble_eq_true rfl⟩) ⟨PG_blind, va_recv hK hP (ci := 13) (q0 := 0) rfl rfl, PG_call hK hG hS hPc hDc hFc⟩ rfl rfl hl.1 rfl (lv_room (Nat.le_of_ble_eq_true rfl)) dL_runs_4 ⟨Nat.le_of_ble_eq_true rfl, Nat.le_of_ble_eq_true rfl⟩) hS (fun q _ h => hFc q h) hFc (fun q _ h => hFc q h) (fun E ce q9 u t H1 locs1 ht9 hvm hp9 hB9 hz hk hS9 hce hcv hcl => ?_) (fun r_1 u_1 t_1 H_1 L_1 ht_1 hvm_1 hw_1 hB_1 hz_1 hk_1 hS => ?_)
  · have hP := rest_kept hP hD hk
    have hD := D_r hD
    have h9 : E = "java/lang/IndexOutOfBoundsException" ∧ (TOKb x) = false := hB9
    rcases h9 with ⟨rfl, hc0⟩
    · refine vx_catch (own := RL) (name := "java/lang/IndexOutOfBoundsException") (E := "java/lang/IndexOutOfBoundsException") hown [] ⟨0, 9, 12, 13⟩ [] (by rw [hTab]; rfl) (fun z hz => absurd hz List.not_mem_nil) (by decide) (by decide) hxl0 (xc_0 hG) hce hcv hcl ?_
      have hS := hS9
      have ht_1 := ht9
      refine lv_astore_n (lv' := [(3, .ref q9), (0, .ref (a 0)), (1, .int x), (2, .ref ou)]) hx hb dL_runs_12 rfl hl (by decide) rfl (fun ls hl => ?_)
      refine lv_iconst (v := 1) hx hb dL_runs_13 (by decide) ?_
      exact W.iret (v := 1) hx hb hr (fun t ht hW => ⟨⟨1, f0, rfl, ⟨by simp [cd, hc0], fun h => absurd h (by simp [cd, hc0])⟩, P_at ht hP⟩, hS.F ht⟩) hS.2.2 dL_runs_14
  · have hP := rest_kept hP hD hk_1
    have hD := D_r hD
    obtain ⟨hc0, rfl⟩ := hw_1
    refine lv_i2l (v := (0 : Int32).toInt64) hx hb dL_runs_7 rfl ?_
    refine va_last hx hb hK hP hD hS 0 2 rfl rfl (by unfold vp_in; decide) dL_runs_8 (fun H_7 L_7 hP hD hS => ?_)
    have hP : va_P (dC, dI) vwCl [(ou, .inl (g 2, 1, .inr (.inl (vp_updL f0 (0 : Int32).toNatClampNeg ((0 : Int32).toInt64)))))] H_7 := hP
    refine lv_goto (tgt := 15) hx hb dL_runs_9 (by decide) ?_
    refine lv_iconst (v := 0) hx hb dL_runs_15 (by decide) ?_
    exact W.iret (v := 0) hx hb hr (fun t ht hW => ⟨⟨0, (vp_updL f0 (0 : Int32).toNatClampNeg ((0 : Int32).toInt64)), rfl, ⟨by simp [cd, hc0], fun _ => rfl⟩, P_at ht hP⟩, hS.F ht⟩) hS.2.2 dL_runs_16
set_option maxHeartbeats 4000000 in
set_option maxRecDepth 100000 in
theorem c_L_runLength (l : Launch) (hlf : l.stackTraces = false) (dC : Nat → ClassId) (dI : Nat → Nat → Nat) (g : Nat → ClassId) (a : Nat → Nat) (x : Int32) (rn : Int32) (ou : Nat) (f0 : Nat → Int64) (sz : Nat) : Met l yL_runLength wsL_runLength ({ frames := 9, cells := 8, slots := 48, locals := 147 }) (va_Pc [.ref (a 0), .int x, .int rn, .ref ou] (PG (dC, dI) g (offW a g ++ [(ou, .inl (g 2, 1, .inr (.inl f0)))]) sz)) (va_Qi (fun (r : Int32) (fz : Nat → Int64) => r = (cd false true true) ∧ ((cd false true true) = 0 → fz 0 = 0)) (fun (fz : Nat → Int64) t => va_P (dC, dI) vwCl [(ou, .inl (g 2, 1, .inr (.inl fz)))] t.heap) (va_A (offW a g ++ [(ou, .inl (g 2, 1, .inr (.inl f0)))]) sz)) 8 48 (va_A (offW a g ++ [(ou, .inl (g 2, 1, .inr (.inl f0)))]) sz) := by
  refine mt_ofWH (cc := cL_runLength) (maxL := 5) (ret := (some .int)) (by decide) rfl ?_
  intro p e s m args below meth c s₁ B hml hv
  obtain ⟨rfl, hsz, hP, hK, hD0, hG⟩ := hv
  have hx := B.exec
  have hb := B.bytes
  have hr := B.returns
  have hts := atoms_spec (ws := wsL_runLength) B.pre
  have hown : s.vm.findClass RL = some m.cls := findClass_of_methodNamed B.named
  have hlocks := B.notSynchronized
  have hTab := vx_table (x := yL_runLength) B (hts (Cond.codeWith yL_runLength cL_runLength 5 (some .int) [(0, 10, 13, 13)]) (List.mem_cons_self))
  subst hsz
  have hD := hD0.self (sz := s.heap.size)
  generalize hAe : va_A (offW a g ++ [(ou, .inl (g 2, 1, .inr (.inl f0)))]) s.heap.size = A at hD hG ⊢
  have hA : ∀ q : Nat, s.heap.size ≤ q → A q := fun q h => by rw [← hAe]; exact Or.inr h
  have hS : va_S A s.heap s.heap [] := va_S.rf
  have hl := lv_entry ([.ref (a 0), .int x, .int rn, .ref ou]) (n := 5) (Nat.le_of_ble_eq_true rfl)
  rw [lg_entry_eq]
  generalize (lg_sl ([.ref (a 0), .int x, .int rn, .ref ou]) ++ List.replicate (5 - (lg_sl ([.ref (a 0), .int x, .int rn, .ref ou])).length) Slot.unset).toArray = ls at hl ⊢
  have hl : lv_has ls 5 [(0, .ref (a 0)), (1, .int x), (2, .int rn), (3, .ref ou)] := hl
  have hxl0 := hts (Cond.classLink RL 13 "java/lang/IndexOutOfBoundsException") (by decide +kernel)
  refine lv_aload_n hx hb dL_runLength_0 rfl (lv_at hl 3 rfl) ?_
  refine lv_iconst (v := 0) hx hb dL_runLength_1 (by decide) ?_
  refine lv_aload_n hx hb dL_runLength_2 rfl (lv_at hl 0 rfl) ?_
  refine lv_iload_n hx hb dL_runLength_3 rfl (lv_at hl 1 rfl) ?_
  refine lv_iload_n hx hb dL_runLength_4 rfl (lv_at hl 2 rfl) ?_
  have hDc := D_l hD
  have hPc := P_l hP
  have hFc : ∀ q, va_A (offW a g) s.heap.size q → A q := A_all hDc hA hS.1
  refine vx_calli (vx_runV (As := [.int x, .int rn]) (rest := [.int 0, .ref ou]) ⟨hx, hb, hml, hown, hts⟩ (c_X11_runLength l hlf dC dI g a x rn s.heap.size) (cwV 2 hts gL_runLength_X11_runLength rfl rfl rfl (by decide +kernel) ⟨Nat.le_of_ble_eq_true rfl, Nat.le_of_ble_eq_true rfl⟩) ⟨PG_blind, va_recv hK hP (ci := 13) (q0 := 0) rfl rfl, PG_call hK hG hS hPc hDc hFc⟩ rfl rfl hl.1 rfl (lv_room (Nat.le_of_ble_eq_true rfl)) dL_runLength_5 ⟨Nat.le_of_ble_eq_true rfl, Nat.le_of_ble_eq_true rfl⟩) hS (fun q _ h => hFc q h) hFc (fun q _ h => hFc q h) (fun E ce q9 u t H1 locs1 ht9 hvm hp9 hB9 hz hk hS9 hce hcv hcl => ?_) (fun r_1 u_1 t_1 H_1 L_1 ht_1 hvm_1 hw_1 hB_1 hz_1 hk_1 hS => ?_)
  · have hP := rest_kept hP hD hk
    have hD := D_r hD
    have h9 : E = "java/lang/IndexOutOfBoundsException" := hB9
    rcases h9 with rfl
    · refine vx_catch (own := RL) (name := "java/lang/IndexOutOfBoundsException") (E := "java/lang/IndexOutOfBoundsException") hown [] ⟨0, 10, 13, 13⟩ [] (by rw [hTab]; rfl) (fun z hz => absurd hz List.not_mem_nil) (by decide) (by decide) hxl0 (xc_0 hG) hce hcv hcl ?_
      have hS := hS9
      have ht_1 := ht9
      refine lv_astore (lv' := [(4, .ref q9), (0, .ref (a 0)), (1, .int x), (2, .int rn), (3, .ref ou)]) hx hb dL_runLength_13 hl (by decide) rfl (fun ls hl => ?_)
      refine lv_iconst (v := 1) hx hb dL_runLength_15 (by decide) ?_
      exact W.iret (v := 1) hx hb hr (fun t ht hW => ⟨⟨1, f0, rfl, ⟨by simp [cd], fun h => absurd h (by simp [cd])⟩, P_at ht hP⟩, hS.F ht⟩) hS.2.2 dL_runLength_16
  · exact hw_1.elim
set_option maxHeartbeats 4000000 in
set_option maxRecDepth 100000 in
theorem c_L_runAt (l : Launch) (hlf : l.stackTraces = false) (dC : Nat → ClassId) (dI : Nat → Nat → Nat) (g : Nat → ClassId) (a : Nat → Nat) (x : Int32) (rn : Int32) (pl : Int32) (ou : Nat) (f0 : Nat → Int64) (sz : Nat) : Met l yL_runAt wsL_runAt ({ frames := 9, cells := 8, slots := 48, locals := 148 }) (va_Pc [.ref (a 0), .int x, .int rn, .int pl, .ref ou] (PG (dC, dI) g (offW a g ++ [(ou, .inl (g 2, 1, .inr (.inl f0)))]) sz)) (va_Qi (fun (r : Int32) (fz : Nat → Int64) => r = (cd false true true) ∧ ((cd false true true) = 0 → fz 0 = 0)) (fun (fz : Nat → Int64) t => va_P (dC, dI) vwCl [(ou, .inl (g 2, 1, .inr (.inl fz)))] t.heap) (va_A (offW a g ++ [(ou, .inl (g 2, 1, .inr (.inl f0)))]) sz)) 8 48 (va_A (offW a g ++ [(ou, .inl (g 2, 1, .inr (.inl f0)))]) sz) := by
  refine mt_ofWH (cc := cL_runAt) (maxL := 6) (ret := (some .int)) (by decide) rfl ?_
  intro p e s m args below meth c s₁ B hml hv
  obtain ⟨rfl, hsz, hP, hK, hD0, hG⟩ := hv
  have hx := B.exec
  have hb := B.bytes
  have hr := B.returns
  have hts := atoms_spec (ws := wsL_runAt) B.pre
  have hown : s.vm.findClass RL = some m.cls := findClass_of_methodNamed B.named
  have hlocks := B.notSynchronized
  have hTab := vx_table (x := yL_runAt) B (hts (Cond.codeWith yL_runAt cL_runAt 6 (some .int) [(0, 12, 15, 13)]) (List.mem_cons_self))
  subst hsz
  have hD := hD0.self (sz := s.heap.size)
  generalize hAe : va_A (offW a g ++ [(ou, .inl (g 2, 1, .inr (.inl f0)))]) s.heap.size = A at hD hG ⊢
  have hA : ∀ q : Nat, s.heap.size ≤ q → A q := fun q h => by rw [← hAe]; exact Or.inr h
  have hS : va_S A s.heap s.heap [] := va_S.rf
  have hl := lv_entry ([.ref (a 0), .int x, .int rn, .int pl, .ref ou]) (n := 6) (Nat.le_of_ble_eq_true rfl)
  rw [lg_entry_eq]
  generalize (lg_sl ([.ref (a 0), .int x, .int rn, .int pl, .ref ou]) ++ List.replicate (6 - (lg_sl ([.ref (a 0), .int x, .int rn, .int pl, .ref ou])).length) Slot.unset).toArray = ls at hl ⊢
  have hl : lv_has ls 6 [(0, .ref (a 0)), (1, .int x), (2, .int rn), (3, .int pl), (4, .ref ou)] := hl
  have hxl0 := hts (Cond.classLink RL 13 "java/lang/IndexOutOfBoundsException") (by decide +kernel)
  refine lv_aload hx hb dL_runAt_0 (lv_at hl 4 rfl) ?_
  refine lv_iconst (v := 0) hx hb dL_runAt_2 (by decide) ?_
  refine lv_aload_n hx hb dL_runAt_3 rfl (lv_at hl 0 rfl) ?_
  refine lv_iload_n hx hb dL_runAt_4 rfl (lv_at hl 1 rfl) ?_
  refine lv_iload_n hx hb dL_runAt_5 rfl (lv_at hl 2 rfl) ?_
  refine lv_iload_n hx hb dL_runAt_6 rfl (lv_at hl 3 rfl) ?_
  have hDc := D_l hD
  have hPc := P_l hP
  have hFc : ∀ q, va_A (offW a g) s.heap.size q → A q := A_all hDc hA hS.1
  refine vx_calli (vx_runV (As := [.int x, .int rn, .int pl]) (rest := [.int 0, .ref ou]) ⟨hx, hb, hml, hown, hts⟩ (c_X11_runAt l hlf dC dI g a x rn pl s.heap.size) (cwV 3 hts gL_runAt_X11_runAt rfl rfl rfl (by decide +kernel) ⟨Nat.le_of_ble_eq_true rfl, Nat.le_of_ble_eq_true rfl⟩) ⟨PG_blind, va_recv hK hP (ci := 13) (q0 := 0) rfl rfl, PG_call hK hG hS hPc hDc hFc⟩ rfl rfl hl.1 rfl (lv_room (Nat.le_of_ble_eq_true rfl)) dL_runAt_7 ⟨Nat.le_of_ble_eq_true rfl, Nat.le_of_ble_eq_true rfl⟩) hS (fun q _ h => hFc q h) hFc (fun q _ h => hFc q h) (fun E ce q9 u t H1 locs1 ht9 hvm hp9 hB9 hz hk hS9 hce hcv hcl => ?_) (fun r_1 u_1 t_1 H_1 L_1 ht_1 hvm_1 hw_1 hB_1 hz_1 hk_1 hS => ?_)
  · have hP := rest_kept hP hD hk
    have hD := D_r hD
    have h9 : E = "java/lang/IndexOutOfBoundsException" := hB9
    rcases h9 with rfl
    · refine vx_catch (own := RL) (name := "java/lang/IndexOutOfBoundsException") (E := "java/lang/IndexOutOfBoundsException") hown [] ⟨0, 12, 15, 13⟩ [] (by rw [hTab]; rfl) (fun z hz => absurd hz List.not_mem_nil) (by decide) (by decide) hxl0 (xc_0 hG) hce hcv hcl ?_
      have hS := hS9
      have ht_1 := ht9
      refine lv_astore (lv' := [(5, .ref q9), (0, .ref (a 0)), (1, .int x), (2, .int rn), (3, .int pl), (4, .ref ou)]) hx hb dL_runAt_15 hl (by decide) rfl (fun ls hl => ?_)
      refine lv_iconst (v := 1) hx hb dL_runAt_17 (by decide) ?_
      exact W.iret (v := 1) hx hb hr (fun t ht hW => ⟨⟨1, f0, rfl, ⟨by simp [cd], fun h => absurd h (by simp [cd])⟩, P_at ht hP⟩, hS.F ht⟩) hS.2.2 dL_runAt_18
  · exact hw_1.elim
