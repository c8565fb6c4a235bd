theorem dX13_runsNow_0 : decode cX13_runsNow 0 = .ok (.aload_n 0, 1) := by decide +kernel
theorem dX13_runsNow_1 : decode cX13_runsNow 1 = .ok (.aload_n 0, 1) := by decide +kernel
theorem dX13_runsNow_2 : decode cX13_runsNow 2 = .ok (.getfield 29, 3) := by decide +kernel
theorem dX13_runsNow_5 : decode cX13_runsNow 5 = .ok (.iload_n 1, 1) := by decide +kernel
theorem dX13_runsNow_6 : decode cX13_runsNow 6 = .ok (.aaload, 1) := by decide +kernel
theorem dX13_runsNow_7 : decode cX13_runsNow 7 = .ok (.aload_n 0, 1) := by decide +kernel
theorem dX13_runsNow_8 : decode cX13_runsNow 8 = .ok (.getfield 35, 3) := by decide +kernel
set_option maxRecDepth 20000 in
theorem ggX13_runsNow_X13_runsOf : GoodIn wsX13_runsNow wsX13_runsOf := goodIn_r _ [7, 8, 9, 10, 11, 12, 13, 6, 14, 15, 16, 17, 18, 19, 20, 21, 22, 23, 24, 25, 26, 27, 28, 29, 30, 31, 32, 33, 34, 35, 36, 37, 38, 39, 40, 41, 42, 43, 44, 45, 46, 47, 48, 49, 50, 51, 52, 53, 54, 55, 56, 57, 58, 59, 60, 61, 62, 63, 64, 65, 66, 67, 68, 69, 70, 71, 72, 73, 74, 75, 76, 77, 78, 79, 80, 81, 82, 83, 84, 85, 86, 87, 88, 89, 90, 91, 92, 93, 94, 95, 96, 97, 98, 99, 100, 101, 102, 103, 104, 105, 106, 107, 108, 109, 110, 111, 112, 113, 114, 115, 116, 117, 118, 119, 120, 121, 122, 123, 124, 125, 126, 127, 128, 129, 130, 131, 132, 133, 134, 135, 136, 137, 138, 139, 140, 141, 142, 143, 144, 145, 146, 147, 148, 149, 150, 151, 152, 153, 154, 155, 156, 157, 158, 159, 160, 175, 176, 177, 178, 161, 162, 163, 164, 165, 166, 167, 168, 169, 170, 171, 172, 173, 174] (by decide +kernel) (by decide +kernel)
set_option maxRecDepth 20000 in
theorem gX13_runsNow_X13_runsOf : GoodIn wsX13_runsNow (wsV RX13 138 RX13 yX13_runsOf wsX13_runsOf) := goodIn_app (goodIn_of _ (by decide +kernel)) ggX13_runsNow_X13_runsOf
theorem dX13_runsNow_11 : decode cX13_runsNow 11 = .ok (.invokevirtual 138, 3) := by decide +kernel
theorem dX13_runsNow_14 : decode cX13_runsNow 14 = .ok (.areturn, 1) := by decide +kernel
theorem dX13_runs_0 : decode cX13_runs 0 = .ok (.aload_n 0, 1) := by decide +kernel
theorem dX13_runs_1 : decode cX13_runs 1 = .ok (.iload_n 1, 1) := by decide +kernel
set_option maxRecDepth 20000 in
theorem ggX13_runs_X13_isTape : GoodIn wsX13_runs wsX13_isTape := goodIn_r _ [4, 5, 6, 3, 7] (by decide +kernel) (by decide +kernel)
set_option maxRecDepth 20000 in
theorem gX13_runs_X13_isTape : GoodIn wsX13_runs (va_wsS RX13 44 yX13_isTape wsX13_isTape) := goodIn_app (goodIn_of _ (by decide +kernel)) ggX13_runs_X13_isTape
theorem dX13_runs_2 : decode cX13_runs 2 = .ok (.invokestatic 44, 3) := by decide +kernel
theorem dX13_runs_5 : decode cX13_runs 5 = .ok (.iconst 1, 1) := by decide +kernel
theorem dX13_runs_6 : decode cX13_runs 6 = .ok (.iconst 1, 1) := by decide +kernel
set_option maxRecDepth 20000 in
theorem ggX13_runs_X13_passes : GoodIn wsX13_runs wsX13_passes := goodIn_r _ [11, 12, 176, 177, 178, 179, 180, 181, 182, 183, 184, 185, 186, 187, 188, 189] (by decide +kernel) (by decide +kernel)
set_option maxRecDepth 20000 in
theorem gX13_runs_X13_passes : GoodIn wsX13_runs (wsV RX13 55 RX13 yX13_passes wsX13_passes) := goodIn_app (goodIn_of _ (by decide +kernel)) ggX13_runs_X13_passes
theorem dX13_runs_7 : decode cX13_runs 7 = .ok (.invokevirtual 55, 3) := by decide +kernel
theorem dX13_runs_10 : decode cX13_runs 10 = .ok (.ifCond .eq 16, 3) := by decide +kernel
theorem dX13_runs_26 : decode cX13_runs 26 = .ok (.iconst 0, 1) := by decide +kernel
theorem dX13_runs_27 : decode cX13_runs 27 = .ok (.ireturn, 1) := by decide +kernel
theorem dX13_runs_13 : decode cX13_runs 13 = .ok (.aload_n 0, 1) := by decide +kernel
theorem dX13_runs_14 : decode cX13_runs 14 = .ok (.iload_n 1, 1) := by decide +kernel
set_option maxRecDepth 20000 in
theorem ggX13_runs_X13_runsNow : GoodIn wsX13_runs wsX13_runsNow := goodIn_r _ [16, 17, 18, 19, 20, 21, 3, 22, 23, 24, 25, 26, 27, 28, 29, 30, 31, 32, 33, 34, 35, 36, 37, 38, 39, 40, 41, 42, 43, 44, 45, 46, 47, 48, 49, 50, 51, 52, 53, 54, 55, 56, 57, 58, 59, 60, 61, 62, 63, 64, 65, 66, 67, 68, 69, 70, 71, 72, 73, 74, 75, 76, 77, 78, 79, 80, 81, 82, 83, 84, 85, 86, 87, 88, 89, 90, 91, 92, 93, 94, 95, 96, 97, 98, 99, 100, 101, 102, 103, 104, 105, 106, 107, 108, 109, 110, 111, 112, 113, 114, 115, 116, 117, 118, 119, 120, 121, 122, 123, 124, 125, 126, 127, 128, 129, 130, 131, 132, 133, 134, 135, 136, 137, 138, 139, 140, 141, 142, 143, 144, 145, 146, 147, 148, 149, 150, 151, 152, 153, 154, 155, 156, 157, 158, 159, 160, 161, 162, 163, 164, 165, 166, 167, 168, 169, 170, 171, 172, 173, 174, 175, 176, 177, 178, 179, 180, 181, 182, 183, 184, 185, 186, 187, 188, 189, 190, 191, 192, 193] (by decide +kernel) (by decide +kernel)
set_option maxRecDepth 20000 in
theorem gX13_runs_X13_runsNow : GoodIn wsX13_runs (wsV RX13 142 RX13 yX13_runsNow wsX13_runsNow) := goodIn_app (goodIn_of _ (by decide +kernel)) ggX13_runs_X13_runsNow
theorem dX13_runs_15 : decode cX13_runs 15 = .ok (.invokevirtual 142, 3) := by decide +kernel
set_option maxRecDepth 20000 in
theorem ggX13_runs_Jx4a65c_size_8abf5 : GoodIn wsX13_runs wsJx4a65c_size_8abf5 := goodIn_r _ [130, 75, 190, 191, 192] (by decide +kernel) (by decide +kernel)
set_option maxRecDepth 20000 in
theorem gX13_runs_Jx4a65c_size_8abf5_f79Jx4a65c : GoodIn wsX13_runs (va_wsF RX13 79 RJx4a65c ⟨"java/util/List", "size", "()I"⟩ yJx4a65c_size_8abf5 wsJx4a65c_size_8abf5) := goodIn_app (goodIn_of _ (by decide +kernel)) ggX13_runs_Jx4a65c_size_8abf5
theorem dX13_runs_18 : decode cX13_runs 18 = .ok (.invokeinterface 79 1, 5) := by decide +kernel
theorem dX13_runs_23 : decode cX13_runs 23 = .ok (.goto 4, 3) := by decide +kernel
theorem dX13_runLength_0 : decode cX13_runLength 0 = .ok (.iload_n 1, 1) := by decide +kernel
set_option maxRecDepth 20000 in
theorem ggX13_runLength_X13_isTape : GoodIn wsX13_runLength wsX13_isTape := goodIn_r _ [5, 6, 7, 4, 8] (by decide +kernel) (by decide +kernel)
set_option maxRecDepth 20000 in
theorem gX13_runLength_X13_isTape : GoodIn wsX13_runLength (va_wsS RX13 44 yX13_isTape wsX13_isTape) := goodIn_app (goodIn_of _ (by decide +kernel)) ggX13_runLength_X13_isTape
theorem dX13_runLength_1 : decode cX13_runLength 1 = .ok (.invokestatic 44, 3) := by decide +kernel
theorem dX13_runLength_4 : decode cX13_runLength 4 = .ok (.ifCond .eq 25, 3) := by decide +kernel
theorem dX13_runLength_29 : decode cX13_runLength 29 = .ok (.iconst 0, 1) := by decide +kernel
theorem dX13_runLength_30 : decode cX13_runLength 30 = .ok (.istore_n 3, 1) := by decide +kernel
theorem dX13_runLength_31 : decode cX13_runLength 31 = .ok (.aload_n 0, 1) := by decide +kernel
theorem dX13_runLength_32 : decode cX13_runLength 32 = .ok (.iload_n 3, 1) := by decide +kernel
theorem dX13_runLength_33 : decode cX13_runLength 33 = .ok (.iconst 1, 1) := by decide +kernel
theorem dX13_runLength_34 : decode cX13_runLength 34 = .ok (.iconst 1, 1) := by decide +kernel
set_option maxRecDepth 20000 in
theorem ggX13_runLength_X13_passes : GoodIn wsX13_runLength wsX13_passes := goodIn_r _ [175, 176, 177, 178, 179, 180, 181, 182, 183, 184, 185, 186, 187, 188, 189, 190] (by decide +kernel) (by decide +kernel)
set_option maxRecDepth 20000 in
theorem gX13_runLength_X13_passes : GoodIn wsX13_runLength (wsV RX13 55 RX13 yX13_passes wsX13_passes) := goodIn_app (goodIn_of _ (by decide +kernel)) ggX13_runLength_X13_passes
theorem dX13_runLength_35 : decode cX13_runLength 35 = .ok (.invokevirtual 55, 3) := by decide +kernel
theorem dX13_runLength_38 : decode cX13_runLength 38 = .ok (.ifCond .eq 21, 3) := by decide +kernel
theorem dX13_runLength_59 : decode cX13_runLength 59 = .ok (.iconst 0, 1) := by decide +kernel
theorem dX13_runLength_60 : decode cX13_runLength 60 = .ok (.ireturn, 1) := by decide +kernel
theorem dX13_runLength_7 : decode cX13_runLength 7 = .ok (.iload_n 2, 1) := by decide +kernel
theorem dX13_runLength_8 : decode cX13_runLength 8 = .ok (.ifCond .lt 21, 3) := by decide +kernel
theorem dX13_runLength_11 : decode cX13_runLength 11 = .ok (.iload_n 2, 1) := by decide +kernel
theorem dX13_runLength_12 : decode cX13_runLength 12 = .ok (.aload_n 0, 1) := by decide +kernel
theorem dX13_runLength_13 : decode cX13_runLength 13 = .ok (.iload_n 1, 1) := by decide +kernel
set_option maxRecDepth 20000 in
theorem ggX13_runLength_X13_runsNow : GoodIn wsX13_runLength wsX13_runsNow := goodIn_r _ [12, 13, 14, 15, 16, 17, 4, 18, 19, 20, 21, 22, 23, 24, 25, 26, 27, 28, 29, 30, 31, 32, 33, 34, 35, 36, 37, 38, 39, 40, 41, 42, 43, 44, 45, 46, 47, 48, 49, 50, 51, 52, 53, 54, 55, 56, 57, 58, 59, 60, 61, 62, 63, 64, 65, 66, 67, 68, 69, 70, 71, 72, 73, 74, 75, 76, 77, 78, 79, 80, 81, 82, 83, 84, 85, 86, 87, 88, 89, 90, 91, 92, 93, 94, 95, 96, 97, 98, 99, 100, 101, 102, 103, 104, 105, 106, 107, 108, 109, 110, 111, 112, 113, 114, 115, 116, 117, 118, 119, 120, 121, 122, 123, 124, 125, 126, 127, 128, 129, 130, 131, 132, 133, 134, 135, 136, 137, 138, 139, 140, 141, 142, 143, 144, 145, 146, 147, 148, 149, 150, 151, 152, 153, 154, 155, 156, 157, 158, 159, 160, 161, 162, 163, 164, 165, 166, 167, 168, 169, 170, 171, 177, 178, 179, 180, 181, 182, 183, 184, 185, 186, 187, 188, 189, 190, 191, 192, 193, 194] (by decide +kernel) (by decide +kernel)
set_option maxRecDepth 20000 in
theorem gX13_runLength_X13_runsNow : GoodIn wsX13_runLength (wsV RX13 142 RX13 yX13_runsNow wsX13_runsNow) := goodIn_app (goodIn_of _ (by decide +kernel)) ggX13_runLength_X13_runsNow
theorem dX13_runLength_14 : decode cX13_runLength 14 = .ok (.invokevirtual 142, 3) := by decide +kernel
set_option maxRecDepth 20000 in
theorem ggX13_runLength_Jx4a65c_size_8abf5 : GoodIn wsX13_runLength wsJx4a65c_size_8abf5 := goodIn_r _ [126, 71, 191, 192, 193] (by decide +kernel) (by decide +kernel)
set_option maxRecDepth 20000 in
theorem gX13_runLength_Jx4a65c_size_8abf5_f79Jx4a65c : GoodIn wsX13_runLength (va_wsF RX13 79 RJx4a65c ⟨"java/util/List", "size", "()I"⟩ yJx4a65c_size_8abf5 wsJx4a65c_size_8abf5) := goodIn_app (goodIn_of _ (by decide +kernel)) ggX13_runLength_Jx4a65c_size_8abf5
theorem dX13_runLength_17 : decode cX13_runLength 17 = .ok (.invokeinterface 79 1, 5) := by decide +kernel
theorem dX13_runLength_22 : decode cX13_runLength 22 = .ok (.if_icmp .ge 7, 3) := by decide +kernel
theorem dX13_runAt_0 : decode cX13_runAt 0 = .ok (.iload_n 1, 1) := by decide +kernel
set_option maxRecDepth 20000 in
theorem ggX13_runAt_X13_isTape : GoodIn wsX13_runAt wsX13_isTape := goodIn_r _ [5, 6, 7, 4, 8] (by decide +kernel) (by decide +kernel)
set_option maxRecDepth 20000 in
theorem gX13_runAt_X13_isTape : GoodIn wsX13_runAt (va_wsS RX13 44 yX13_isTape wsX13_isTape) := goodIn_app (goodIn_of _ (by decide +kernel)) ggX13_runAt_X13_isTape
theorem dX13_runAt_1 : decode cX13_runAt 1 = .ok (.invokestatic 44, 3) := by decide +kernel
theorem dX13_runAt_4 : decode cX13_runAt 4 = .ok (.ifCond .eq 50, 3) := by decide +kernel
theorem dX13_runAt_54 : decode cX13_runAt 54 = .ok (.iconst 0, 1) := by decide +kernel
theorem dX13_runAt_55 : decode cX13_runAt 55 = .ok (.istore 4, 2) := by decide +kernel
theorem dX13_runAt_57 : decode cX13_runAt 57 = .ok (.aload_n 0, 1) := by decide +kernel
theorem dX13_runAt_58 : decode cX13_runAt 58 = .ok (.iload 4, 2) := by decide +kernel
theorem dX13_runAt_60 : decode cX13_runAt 60 = .ok (.iconst 1, 1) := by decide +kernel
theorem dX13_runAt_61 : decode cX13_runAt 61 = .ok (.iconst 1, 1) := by decide +kernel
set_option maxRecDepth 20000 in
theorem ggX13_runAt_X13_passes : GoodIn wsX13_runAt wsX13_passes := goodIn_r _ [175, 176, 177, 178, 179, 180, 181, 182, 183, 184, 185, 186, 187, 188, 189, 190] (by decide +kernel) (by decide +kernel)
set_option maxRecDepth 20000 in
theorem gX13_runAt_X13_passes : GoodIn wsX13_runAt (wsV RX13 55 RX13 yX13_passes wsX13_passes) := goodIn_app (goodIn_of _ (by decide +kernel)) ggX13_runAt_X13_passes
theorem dX13_runAt_62 : decode cX13_runAt 62 = .ok (.invokevirtual 55, 3) := by decide +kernel
theorem dX13_runAt_65 : decode cX13_runAt 65 = .ok (.ifCond .eq 22, 3) := by decide +kernel
theorem dX13_runAt_87 : decode cX13_runAt 87 = .ok (.iconst 0, 1) := by decide +kernel
theorem dX13_runAt_88 : decode cX13_runAt 88 = .ok (.ireturn, 1) := by decide +kernel
theorem dX13_runAt_7 : decode cX13_runAt 7 = .ok (.iload_n 2, 1) := by decide +kernel
theorem dX13_runAt_8 : decode cX13_runAt 8 = .ok (.ifCond .lt 46, 3) := by decide +kernel
theorem dX13_runAt_11 : decode cX13_runAt 11 = .ok (.iload_n 2, 1) := by decide +kernel
theorem dX13_runAt_12 : decode cX13_runAt 12 = .ok (.aload_n 0, 1) := by decide +kernel
theorem dX13_runAt_13 : decode cX13_runAt 13 = .ok (.iload_n 1, 1) := by decide +kernel
set_option maxRecDepth 20000 in
theorem ggX13_runAt_X13_runsNow : GoodIn wsX13_runAt wsX13_runsNow := goodIn_r _ [12, 13, 14, 15, 16, 17, 4, 18, 19, 20, 21, 22, 23, 24, 25, 26, 27, 28, 29, 30, 31, 32, 33, 34, 35, 36, 37, 38, 39, 40, 41, 42, 43, 44, 45, 46, 47, 48, 49, 50, 51, 52, 53, 54, 55, 56, 57, 58, 59, 60, 61, 62, 63, 64, 65, 66, 67, 68, 69, 70, 71, 72, 73, 74, 75, 76, 77, 78, 79, 80, 81, 82, 83, 84, 85, 86, 87, 88, 89, 90, 91, 92, 93, 94, 95, 96, 97, 98, 99, 100, 101, 102, 103, 104, 105, 106, 107, 108, 109, 110, 111, 112, 113, 114, 115, 116, 117, 118, 119, 120, 121, 122, 123, 124, 125, 126, 127, 128, 129, 130, 131, 132, 133, 134, 135, 136, 137, 138, 139, 140, 141, 142, 143, 144, 145, 146, 147, 148, 149, 150, 151, 152, 153, 154, 155, 156, 157, 158, 159, 160, 161, 162, 163, 164, 165, 166, 167, 168, 169, 170, 171, 177, 178, 179, 180, 181, 182, 183, 184, 185, 186, 187, 188, 189, 190, 191, 192, 193, 194] (by decide +kernel) (by decide +kernel)
set_option maxRecDepth 20000 in
theorem gX13_runAt_X13_runsNow : GoodIn wsX13_runAt (wsV RX13 142 RX13 yX13_runsNow wsX13_runsNow) := goodIn_app (goodIn_of _ (by decide +kernel)) ggX13_runAt_X13_runsNow
theorem dX13_runAt_14 : decode cX13_runAt 14 = .ok (.invokevirtual 142, 3) := by decide +kernel
set_option maxRecDepth 20000 in
theorem ggX13_runAt_Jx4a65c_size_8abf5 : GoodIn wsX13_runAt wsJx4a65c_size_8abf5 := goodIn_r _ [126, 71, 191, 192, 193] (by decide +kernel) (by decide +kernel)
set_option maxRecDepth 20000 in
theorem gX13_runAt_Jx4a65c_size_8abf5_f79Jx4a65c : GoodIn wsX13_runAt (va_wsF RX13 79 RJx4a65c ⟨"java/util/List", "size", "()I"⟩ yJx4a65c_size_8abf5 wsJx4a65c_size_8abf5) := goodIn_app (goodIn_of _ (by decide +kernel)) ggX13_runAt_Jx4a65c_size_8abf5
theorem dX13_runAt_17 : decode cX13_runAt 17 = .ok (.invokeinterface 79 1, 5) := by decide +kernel
theorem dX13_runAt_22 : decode cX13_runAt 22 = .ok (.if_icmp .ge 32, 3) := by decide +kernel
set_option maxHeartbeats 4000000 in
set_option maxRecDepth 100000 in
theorem c_X13_runsNow (l : Launch) (dC : Nat → ClassId) (dI : Nat → Nat → Nat) (g : Nat → ClassId) (b : Nat → Nat) (r1 : Nat → Nat) (r2 : Nat → Nat) (j : Nat) (th : Int32) (hj : j < 8) (sz : Nat) : Met l yX13_runsNow wsX13_runsNow ({ frames := 6, cells := 4, slots := 12, locals := 128 }) (va_Pc [.ref (b 0), .int (nI j)] (PG (dC, dI) g [((b 0), .inr (15, [.int th, .ref (b 1), .ref (b 2), .int 0, .ref (b 3), .ref (b 4), .ref (b 5), .null, .ref (b 6), .int 0, .int 0, .int 0, .int 0, .int 0])), ((b 3), .inl (g 4, 8, .inr (.inr (.inr (.inr (fun i => if i < 8 then some (r1 i) else none)))))), ((r1 j), .inl (g 0, 0, .inl (fun _ => 0))), ((b 1), .inl (g 0, 200, .inl (fun _ => 0))), ((b 2), .inl (g 0, 200, .inl (fun _ => 0))), ((b 5), .inl (g 0, 5, .inl stf))] sz)) (va_Qq (fun (r : Option Nat) (u : Nat → Nat) => r = some (u 0)) (fun (u : Nat → Nat) t9 => va_P (dC, dI) vwCl [((b 0), .inr (15, [.int th, .ref (b 1), .ref (b 2), .int 0, .ref (b 3), .ref (b 4), .ref (b 5), .null, .ref (b 6), .int 0, .int 0, .int 0, .int 0, .int 0])), ((b 3), .inl (g 4, 8, .inr (.inr (.inr (.inr (fun i => if i < 8 then some (r1 i) else none)))))), ((r1 j), .inl (g 0, 0, .inl (fun _ => 0))), ((b 1), .inl (g 0, 200, .inl (fun _ => 0))), ((b 2), .inl (g 0, 200, .inl (fun _ => 0))), ((b 5), .inl (g 0, 5, .inl stf)), ((u 0), .inr (1, [.int 0, .ref (g 10), .int 0]))] t9.heap ∧ va_D (va_A [((b 0), .inr (15, [.int th, .ref (b 1), .ref (b 2), .int 0, .ref (b 3), .ref (b 4), .ref (b 5), .null, .ref (b 6), .int 0, .int 0, .int 0, .int 0, .int 0])), ((b 3), .inl (g 4, 8, .inr (.inr (.inr (.inr (fun i => if i < 8 then some (r1 i) else none)))))), ((r1 j), .inl (g 0, 0, .inl (fun _ => 0))), ((b 1), .inl (g 0, 200, .inl (fun _ => 0))), ((b 2), .inl (g 0, 200, .inl (fun _ => 0))), ((b 5), .inl (g 0, 5, .inl stf))] sz) [((b 0), .inr (15, [.int th, .ref (b 1), .ref (b 2), .int 0, .ref (b 3), .ref (b 4), .ref (b 5), .null, .ref (b 6), .int 0, .int 0, .int 0, .int 0, .int 0])), ((b 3), .inl (g 4, 8, .inr (.inr (.inr (.inr (fun i => if i < 8 then some (r1 i) else none)))))), ((r1 j), .inl (g 0, 0, .inl (fun _ => 0))), ((b 1), .inl (g 0, 200, .inl (fun _ => 0))), ((b 2), .inl (g 0, 200, .inl (fun _ => 0))), ((b 5), .inl (g 0, 5, .inl stf)), ((u 0), .inr (1, [.int 0, .ref (g 10), .int 0]))]) (va_A [((b 0), .inr (15, [.int th, .ref (b 1), .ref (b 2), .int 0, .ref (b 3), .ref (b 4), .ref (b 5), .null, .ref (b 6), .int 0, .int 0, .int 0, .int 0, .int 0])), ((b 3), .inl (g 4, 8, .inr (.inr (.inr (.inr (fun i => if i < 8 then some (r1 i) else none)))))), ((r1 j), .inl (g 0, 0, .inl (fun _ => 0))), ((b 1), .inl (g 0, 200, .inl (fun _ => 0))), ((b 2), .inl (g 0, 200, .inl (fun _ => 0))), ((b 5), .inl (g 0, 5, .inl stf))] sz)) 4 12 (va_A [((b 0), .inr (15, [.int th, .ref (b 1), .ref (b 2), .int 0, .ref (b 3), .ref (b 4), .ref (b 5), .null, .ref (b 6), .int 0, .int 0, .int 0, .int 0, .int 0])), ((b 3), .inl (g 4, 8, .inr (.inr (.inr (.inr (fun i => if i < 8 then some (r1 i) else none)))))), ((r1 j), .inl (g 0, 0, .inl (fun _ => 0))), ((b 1), .inl (g 0, 200, .inl (fun _ => 0))), ((b 2), .inl (g 0, 200, .inl (fun _ => 0))), ((b 5), .inl (g 0, 5, .inl stf))] sz) := by
  refine Met.ofW (cc := cX13_runsNow) (maxL := 2) (ret := (some (.object "java/util/List"))) (by decide) rfl ?_
  intro p e s m args below meth c s₁ B hml hv
  obtain ⟨rfl, hsz, hP, hK, hD0, hG⟩ := hv
  have hx := B.exec
  have hb := B.bytes
  have hr := B.returns
  have hts := atoms_spec (ws := wsX13_runsNow) B.pre
  have hown : s.vm.findClass RX13 = some m.cls := findClass_of_methodNamed B.named
  have hlocks := B.notSynchronized
  subst hsz
  have hD := hD0.self (sz := s.heap.size)
  generalize hAe : va_A [((b 0), .inr (15, [.int th, .ref (b 1), .ref (b 2), .int 0, .ref (b 3), .ref (b 4), .ref (b 5), .null, .ref (b 6), .int 0, .int 0, .int 0, .int 0, .int 0])), ((b 3), .inl (g 4, 8, .inr (.inr (.inr (.inr (fun i => if i < 8 then some (r1 i) else none)))))), ((r1 j), .inl (g 0, 0, .inl (fun _ => 0))), ((b 1), .inl (g 0, 200, .inl (fun _ => 0))), ((b 2), .inl (g 0, 200, .inl (fun _ => 0))), ((b 5), .inl (g 0, 5, .inl stf))] s.heap.size = A at hD hG ⊢
  have hA : ∀ q : Nat, s.heap.size ≤ q → A q := fun q h => by rw [← hAe]; exact Or.inr h
  have hS : va_S A s.heap s.heap [] := va_S.rf
  have hl := lv_entry ([.ref (b 0), .int (nI j)]) (n := 2) (Nat.le_of_ble_eq_true rfl)
  rw [lg_entry_eq]
  generalize (lg_sl ([.ref (b 0), .int (nI j)]) ++ List.replicate (2 - (lg_sl ([.ref (b 0), .int (nI j)])).length) Slot.unset).toArray = ls at hl ⊢
  have hl : lv_has ls 2 [(0, .ref (b 0)), (1, .int (nI j))] := hl
  have hf29 := hts (Cond.fieldLink RX13 29 "RunmergeOfficeModel" "tapes" "[[I") (by decide +kernel)
  have hiX13 : ∀ w ∈ u_ws RX13 TX13 14, w ∈ wsX13_runsNow := by decide +kernel
  have hf35 := hts (Cond.fieldLink RX13 35 "RunmergeOfficeModel" "settings" "[I") (by decide +kernel)
  refine lv_aload_n hx hb dX13_runsNow_0 rfl (lv_at hl 0 rfl) ?_
  refine lv_aload_n hx hb dX13_runsNow_1 rfl (lv_at hl 0 rfl) ?_
  refine va_get (D := (dC, dI)) (ci := 15) (v := .ref (b 3)) (C := RX13) (T := TX13) (N := 14) hx hb hts hiX13 hown hK hP 0 rfl rfl 4 (by decide) hf29 (fun _ h9 => h9) rfl dX13_runsNow_2 ?_
  refine lv_iload_n hx hb dX13_runsNow_5 rfl (lv_at hl 1 rfl) ?_
  refine va_aldA hx hb hK hP 1 rfl (vp_in_nI hj (by decide)) dX13_runsNow_6 ?_
  refine W.eq (g2 := F0 m 7 ls [.ref (r1 j), .ref (b 0)]) (by rw [nI_clamp (show j < 2 ^ 31 by omega)]; simp only [if_pos hj]; rfl) ?_
  refine lv_aload_n hx hb dX13_runsNow_7 rfl (lv_at hl 0 rfl) ?_
  refine va_get (D := (dC, dI)) (ci := 15) (v := .ref (b 5)) (C := RX13) (T := TX13) (N := 14) hx hb hts hiX13 hown hK hP 0 rfl rfl 6 (by decide) hf35 (fun _ h9 => h9) rfl dX13_runsNow_8 ?_
  have hPc := hP.sub (ws' := [((b 0), .inr (15, [.int th, .ref (b 1), .ref (b 2), .int 0, .ref (b 3), .ref (b 4), .ref (b 5), .null, .ref (b 6), .int 0, .int 0, .int 0, .int 0, .int 0])), ((r1 j), .inl (g 0, 0, .inl (fun _ => 0))), ((b 5), .inl (g 0, 5, .inl stf))]) [0, 2, 5] rfl
  have hDc := hD.sub (ws' := [((b 0), .inr (15, [.int th, .ref (b 1), .ref (b 2), .int 0, .ref (b 3), .ref (b 4), .ref (b 5), .null, .ref (b 6), .int 0, .int 0, .int 0, .int 0, .int 0])), ((r1 j), .inl (g 0, 0, .inl (fun _ => 0))), ((b 5), .inl (g 0, 5, .inl stf))]) [0, 2, 5] (by decide) rfl
  have hFc := va_free (wc := [((b 0), .inr (15, [.int th, .ref (b 1), .ref (b 2), .int 0, .ref (b 3), .ref (b 4), .ref (b 5), .null, .ref (b 6), .int 0, .int 0, .int 0, .int 0, .int 0])), ((r1 j), .inl (g 0, 0, .inl (fun _ => 0))), ((b 5), .inl (g 0, 5, .inl stf))]) hD hS hA [0, 2, 5] rfl
  refine va_callq (va_runV (As := [.ref (r1 j), .ref (b 5)]) (rest := []) ⟨hx, hb, hml, hown, hts⟩ (c_X13_runsOf_1 l dC dI g (b 0) (r1 j) (b 5) (fun _ => 0) stf th (b 1) (b 2) 0 (b 3) (b 4) (b 5) none (b 6) 0 0 0 0 0 (by decide) (by decide) s.heap.size) (cwV 2 hts gX13_runsNow_X13_runsOf rfl rfl rfl (by decide +kernel) ⟨Nat.le_of_ble_eq_true rfl, Nat.le_of_ble_eq_true rfl⟩) ⟨PG_blind, va_recv hK hP (ci := 15) (q0 := 0) rfl rfl, PG_call hK hG hS hPc hDc hFc⟩ rfl rfl hl.1 rfl (lv_room (Nat.le_of_ble_eq_true rfl)) dX13_runsNow_11 ⟨Nat.le_of_ble_eq_true rfl, Nat.le_of_ble_eq_true rfl⟩) hS (fun q _ h => hFc q h) hFc (fun r_1 u_1 t_1 H_1 L_1 ht_1 hvm_1 hw_1 hB_1 hz_1 hk_1 hS => ?_)
  obtain ⟨hP1, hD1⟩ := hB_1
  rw [ht_1] at hP1
  obtain ⟨hP, hD⟩ := va_join (wr := [((b 3), .inl (g 4, 8, .inr (.inr (.inr (.inr (fun i => if i < 8 then some (r1 i) else none)))))), ((b 1), .inl (g 0, 200, .inl (fun _ => 0))), ((b 2), .inl (g 0, 200, .inl (fun _ => 0)))]) (w1 := [((b 0), .inr (15, [.int th, .ref (b 1), .ref (b 2), .int 0, .ref (b 3), .ref (b 4), .ref (b 5), .null, .ref (b 6), .int 0, .int 0, .int 0, .int 0, .int 0])), ((r1 j), .inl (g 0, 0, .inl (fun _ => 0))), ((b 5), .inl (g 0, 5, .inl stf)), ((u_1 0), .inr (1, [.int 0, .ref (g 10), .int 0]))]) hP hD [0, 2, 5] [1, 3, 4] rfl rfl (by decide) (by decide) hk_1 hFc hP1 hD1
  have hP : va_P (dC, dI) vwCl [((b 3), .inl (g 4, 8, .inr (.inr (.inr (.inr (fun i => if i < 8 then some (r1 i) else none)))))), ((b 1), .inl (g 0, 200, .inl (fun _ => 0))), ((b 2), .inl (g 0, 200, .inl (fun _ => 0))), ((b 0), .inr (15, [.int th, .ref (b 1), .ref (b 2), .int 0, .ref (b 3), .ref (b 4), .ref (b 5), .null, .ref (b 6), .int 0, .int 0, .int 0, .int 0, .int 0])), ((r1 j), .inl (g 0, 0, .inl (fun _ => 0))), ((b 5), .inl (g 0, 5, .inl stf)), ((u_1 0), .inr (1, [.int 0, .ref (g 10), .int 0]))] H_1 := hP
  have hD : va_D A [((b 3), .inl (g 4, 8, .inr (.inr (.inr (.inr (fun i => if i < 8 then some (r1 i) else none)))))), ((b 1), .inl (g 0, 200, .inl (fun _ => 0))), ((b 2), .inl (g 0, 200, .inl (fun _ => 0))), ((b 0), .inr (15, [.int th, .ref (b 1), .ref (b 2), .int 0, .ref (b 3), .ref (b 4), .ref (b 5), .null, .ref (b 6), .int 0, .int 0, .int 0, .int 0, .int 0])), ((r1 j), .inl (g 0, 0, .inl (fun _ => 0))), ((b 5), .inl (g 0, 5, .inl stf)), ((u_1 0), .inr (1, [.int 0, .ref (g 10), .int 0]))] := hD
  refine W.widen (k := 4) (n := 12) (by omega) (by omega) ?_
  obtain rfl : r_1 = some (u_1 0) := hw_1
  refine W.eq (g2 := F0 m 14 ls [.ref (u_1 0)]) rfl ?_
  have hP9 := hP.sub (ws' := [((b 0), .inr (15, [.int th, .ref (b 1), .ref (b 2), .int 0, .ref (b 3), .ref (b 4), .ref (b 5), .null, .ref (b 6), .int 0, .int 0, .int 0, .int 0, .int 0])), ((b 3), .inl (g 4, 8, .inr (.inr (.inr (.inr (fun i => if i < 8 then some (r1 i) else none)))))), ((r1 j), .inl (g 0, 0, .inl (fun _ => 0))), ((b 1), .inl (g 0, 200, .inl (fun _ => 0))), ((b 2), .inl (g 0, 200, .inl (fun _ => 0))), ((b 5), .inl (g 0, 5, .inl stf)), ((u_1 0), .inr (1, [.int 0, .ref (g 10), .int 0]))]) [3, 0, 4, 1, 2, 5, 6] rfl
  have hD9 := hD.sub (ws' := [((b 0), .inr (15, [.int th, .ref (b 1), .ref (b 2), .int 0, .ref (b 3), .ref (b 4), .ref (b 5), .null, .ref (b 6), .int 0, .int 0, .int 0, .int 0, .int 0])), ((b 3), .inl (g 4, 8, .inr (.inr (.inr (.inr (fun i => if i < 8 then some (r1 i) else none)))))), ((r1 j), .inl (g 0, 0, .inl (fun _ => 0))), ((b 1), .inl (g 0, 200, .inl (fun _ => 0))), ((b 2), .inl (g 0, 200, .inl (fun _ => 0))), ((b 5), .inl (g 0, 5, .inl stf)), ((u_1 0), .inr (1, [.int 0, .ref (g 10), .int 0]))]) [3, 0, 4, 1, 2, 5, 6] (by decide) rfl
  exact W.aret (v := .ref (u_1 0)) hx hb hr (Or.inl ⟨_, rfl⟩) (Or.inr ⟨_, rfl⟩) (fun t ht hW => ⟨⟨some (u_1 0), (fun j => ([(u_1 0)] : List Nat).getD j 0), rfl, rfl, ⟨P_at ht hP9, hD9⟩⟩, hS.F ht⟩) hS.2.2 dX13_runsNow_14
set_option maxHeartbeats 4000000 in
set_option maxRecDepth 100000 in
theorem c_X13_passes_x (l : Launch) (dC : Nat → ClassId) (dI : Nat → Nat → Nat) (g : Nat → ClassId) (b : Nat → Nat) (r1 : Nat → Nat) (r2 : Nat → Nat) (th : Int32) (B1 : Bool) (B2 : Bool) (B3 : Bool) (sz : Nat) : Met l yX13_passes wsX13_passes ({ frames := 0, cells := 0, slots := 0, locals := 0 }) (va_Pc [.ref (b 0), .int (b2i B1), .int (b2i B2), .int (b2i B3)] (PG (dC, dI) g [((b 0), .inr (15, [.int th, .ref (b 1), .ref (b 2), .int 0, .ref (b 3), .ref (b 4), .ref (b 5), .null, .ref (b 6), .int 0, .int 0, .int 0, .int 0, .int 0]))] sz)) (va_Qi (fun (r : Int32) (_ : Unit) => r = b2i (B1 && B2 && B3)) (fun (_ : Unit) t9 => va_P (dC, dI) vwCl [((b 0), .inr (15, [.int (cd B1 B2 B3), .ref (b 1), .ref (b 2), .int 0, .ref (b 3), .ref (b 4), .ref (b 5), .null, .ref (b 6), .int 0, .int 0, .int 0, .int 0, .int 0]))] t9.heap ∧ va_D (va_A [((b 0), .inr (15, [.int th, .ref (b 1), .ref (b 2), .int 0, .ref (b 3), .ref (b 4), .ref (b 5), .null, .ref (b 6), .int 0, .int 0, .int 0, .int 0, .int 0]))] sz) [((b 0), .inr (15, [.int (cd B1 B2 B3), .ref (b 1), .ref (b 2), .int 0, .ref (b 3), .ref (b 4), .ref (b 5), .null, .ref (b 6), .int 0, .int 0, .int 0, .int 0, .int 0]))]) (va_A [((b 0), .inr (15, [.int th, .ref (b 1), .ref (b 2), .int 0, .ref (b 3), .ref (b 4), .ref (b 5), .null, .ref (b 6), .int 0, .int 0, .int 0, .int 0, .int 0]))] sz)) 0 0 (va_A [((b 0), .inr (15, [.int th, .ref (b 1), .ref (b 2), .int 0, .ref (b 3), .ref (b 4), .ref (b 5), .null, .ref (b 6), .int 0, .int 0, .int 0, .int 0, .int 0]))] sz) := by
  refine Met.ofW (cc := cX13_passes) (maxL := 4) (ret := (some .boolean)) (by decide) rfl ?_
  intro p e s m args below meth c s₁ B hml hv
  obtain ⟨rfl, hsz, hP, hK, hD0, hG⟩ := hv
  have hx := B.exec
  have hb := B.bytes
  have hr := B.returns
  have hts := atoms_spec (ws := wsX13_passes) B.pre
  have hown : s.vm.findClass RX13 = some m.cls := findClass_of_methodNamed B.named
  have hlocks := B.notSynchronized
  subst hsz
  have hD := hD0.self (sz := s.heap.size)
  generalize hAe : va_A [((b 0), .inr (15, [.int th, .ref (b 1), .ref (b 2), .int 0, .ref (b 3), .ref (b 4), .ref (b 5), .null, .ref (b 6), .int 0, .int 0, .int 0, .int 0, .int 0]))] s.heap.size = A at hD hG ⊢
  have hA : ∀ q : Nat, s.heap.size ≤ q → A q := fun q h => by rw [← hAe]; exact Or.inr h
  have hS : va_S A s.heap s.heap [] := va_S.rf
  have hl := lv_entry ([.ref (b 0), .int (b2i B1), .int (b2i B2), .int (b2i B3)]) (n := 4) (Nat.le_of_ble_eq_true rfl)
  rw [lg_entry_eq]
  generalize (lg_sl ([.ref (b 0), .int (b2i B1), .int (b2i B2), .int (b2i B3)]) ++ List.replicate (4 - (lg_sl ([.ref (b 0), .int (b2i B1), .int (b2i B2), .int (b2i B3)])).length) Slot.unset).toArray = ls at hl ⊢
  have hl : lv_has ls 4 [(0, .ref (b 0)), (1, .int (b2i B1)), (2, .int (b2i B2)), (3, .int (b2i B3))] := hl
  have hf1 := hts (Cond.fieldLink RX13 1 "RunmergeOfficeModel" "thrown" "I") (by decide +kernel)
  have hiX13 : ∀ w ∈ u_ws RX13 TX13 14, w ∈ wsX13_passes := by decide +kernel
  refine lv_aload_n hx hb dX13_passes_0 rfl (lv_at hl 0 rfl) ?_
  refine lv_iload_n hx hb dX13_passes_1 rfl (lv_at hl 1 rfl) ?_
  refine lv_if_ne (tgt := 9) hx hb dX13_passes_2 (by decide) (fun c_1 => ?_) (fun c_1 => ?_)
  · have hB_2 : (B1) = true := b2i_1 c_1
    refine lv_iload_n hx hb dX13_passes_9 rfl (lv_at hl 2 rfl) ?_
    refine lv_if_ne (tgt := 17) hx hb dX13_passes_10 (by decide) (fun c_3 => ?_) (fun c_3 => ?_)
    · have hB_4 : (B2) = true := b2i_1 c_3
      refine lv_iload_n hx hb dX13_passes_17 rfl (lv_at hl 3 rfl) ?_
      refine lv_if_ne (tgt := 25) hx hb dX13_passes_18 (by decide) (fun c_5 => ?_) (fun c_5 => ?_)
      · have hB_6 : (B3) = true := b2i_1 c_5
        refine lv_iconst (v := 0) hx hb dX13_passes_25 (by decide) ?_
        refine va_put (D := (dC, dI)) (ci := 15) (v := .int 0) (ty := .int) (C := RX13) (T := TX13) (N := 14) hx hb hts hiX13 tyX13 tyX13_ok nmX13 hown hK hP hD hS 0 rfl rfl 0 (by decide) hf1 (fun _ h9 => h9) rfl (by decide +kernel) rfl rfl (Nat.le_of_ble_eq_true rfl) dX13_passes_26 (fun H_7 L_8 hP hD hS => ?_)
        have hP : va_P (dC, dI) vwCl [((b 0), .inr (15, [.int 0, .ref (b 1), .ref (b 2), .int 0, .ref (b 3), .ref (b 4), .ref (b 5), .null, .ref (b 6), .int 0, .int 0, .int 0, .int 0, .int 0]))] H_7 := hP
        have hD : va_D A [((b 0), .inr (15, [.int 0, .ref (b 1), .ref (b 2), .int 0, .ref (b 3), .ref (b 4), .ref (b 5), .null, .ref (b 6), .int 0, .int 0, .int 0, .int 0, .int 0]))] := hD
        refine lv_aload_n hx hb dX13_passes_29 rfl (lv_at hl 0 rfl) ?_
        refine va_get (D := (dC, dI)) (ci := 15) (v := .int 0) (C := RX13) (T := TX13) (N := 14) hx hb hts hiX13 hown hK hP 0 rfl rfl 0 (by decide) hf1 (fun _ h9 => h9) rfl dX13_passes_30 ?_
        refine lv_if_ne (tgt := 40) hx hb dX13_passes_33 (by decide) (fun c_9 => absurd (by decide) c_9) (fun c_9 => ?_)
        refine lv_iconst (v := 1) hx hb dX13_passes_36 (by decide) ?_
        refine lv_goto (tgt := 41) hx hb dX13_passes_37 (by decide) ?_
        have hq9 : cd B1 B2 B3 = (0 : Int32) := by simp [cd, hB_2, hB_4, hB_6]
        have hP9 : va_P (dC, dI) vwCl [((b 0), .inr (15, [.int (cd B1 B2 B3), .ref (b 1), .ref (b 2), .int 0, .ref (b 3), .ref (b 4), .ref (b 5), .null, .ref (b 6), .int 0, .int 0, .int 0, .int 0, .int 0]))] H_7 := by rw [hq9]; exact hP
        have hD9 : va_D A [((b 0), .inr (15, [.int (cd B1 B2 B3), .ref (b 1), .ref (b 2), .int 0, .ref (b 3), .ref (b 4), .ref (b 5), .null, .ref (b 6), .int 0, .int 0, .int 0, .int 0, .int 0]))] := by rw [hq9]; exact hD
        exact W.zret (v := 1) hx hb hr rfl (fun t ht hW => ⟨⟨1, (), rfl, by simp [b2i, hB_2, hB_4, hB_6], ⟨P_at ht hP9, hD9⟩⟩, hS.F ht⟩) hS.2.2 dX13_passes_41
      · have hB_6 : (B3) = false := b2i_0 c_5
        refine lv_iconst (v := 3) hx hb dX13_passes_21 (by decide) ?_
        refine lv_goto (tgt := 26) hx hb dX13_passes_22 (by decide) ?_
        refine va_put (D := (dC, dI)) (ci := 15) (v := .int 3) (ty := .int) (C := RX13) (T := TX13) (N := 14) hx hb hts hiX13 tyX13 tyX13_ok nmX13 hown hK hP hD hS 0 rfl rfl 0 (by decide) hf1 (fun _ h9 => h9) rfl (by decide +kernel) rfl rfl (Nat.le_of_ble_eq_true rfl) dX13_passes_26 (fun H_10 L_11 hP hD hS => ?_)
        have hP : va_P (dC, dI) vwCl [((b 0), .inr (15, [.int 3, .ref (b 1), .ref (b 2), .int 0, .ref (b 3), .ref (b 4), .ref (b 5), .null, .ref (b 6), .int 0, .int 0, .int 0, .int 0, .int 0]))] H_10 := hP
        have hD : va_D A [((b 0), .inr (15, [.int 3, .ref (b 1), .ref (b 2), .int 0, .ref (b 3), .ref (b 4), .ref (b 5), .null, .ref (b 6), .int 0, .int 0, .int 0, .int 0, .int 0]))] := hD
        refine lv_aload_n hx hb dX13_passes_29 rfl (lv_at hl 0 rfl) ?_
        refine va_get (D := (dC, dI)) (ci := 15) (v := .int 3) (C := RX13) (T := TX13) (N := 14) hx hb hts hiX13 hown hK hP 0 rfl rfl 0 (by decide) hf1 (fun _ h9 => h9) rfl dX13_passes_30 ?_
        refine lv_if_ne (tgt := 40) hx hb dX13_passes_33 (by decide) (fun c_12 => ?_) (fun c_12 => absurd c_12 (by decide))
        refine lv_iconst (v := 0) hx hb dX13_passes_40 (by decide) ?_
        have hq9 : cd B1 B2 B3 = (3 : Int32) := by simp [cd, hB_2, hB_4, hB_6]
        have hP9 : va_P (dC, dI) vwCl [((b 0), .inr (15, [.int (cd B1 B2 B3), .ref (b 1), .ref (b 2), .int 0, .ref (b 3), .ref (b 4), .ref (b 5), .null, .ref (b 6), .int 0, .int 0, .int 0, .int 0, .int 0]))] H_10 := by rw [hq9]; exact hP
        have hD9 : va_D A [((b 0), .inr (15, [.int (cd B1 B2 B3), .ref (b 1), .ref (b 2), .int 0, .ref (b 3), .ref (b 4), .ref (b 5), .null, .ref (b 6), .int 0, .int 0, .int 0, .int 0, .int 0]))] := by rw [hq9]; exact hD
        exact W.zret (v := 0) hx hb hr rfl (fun t ht hW => ⟨⟨0, (), rfl, by simp [b2i, hB_2, hB_4, hB_6], ⟨P_at ht hP9, hD9⟩⟩, hS.F ht⟩) hS.2.2 dX13_passes_41
    · have hB_4 : (B2) = false := b2i_0 c_3
      refine lv_iconst (v := 2) hx hb dX13_passes_13 (by decide) ?_
      refine lv_goto (tgt := 26) hx hb dX13_passes_14 (by decide) ?_
      refine va_put (D := (dC, dI)) (ci := 15) (v := .int 2) (ty := .int) (C := RX13) (T := TX13) (N := 14) hx hb hts hiX13 tyX13 tyX13_ok nmX13 hown hK hP hD hS 0 rfl rfl 0 (by decide) hf1 (fun _ h9 => h9) rfl (by decide +kernel) rfl rfl (Nat.le_of_ble_eq_true rfl) dX13_passes_26 (fun H_13 L_14 hP hD hS => ?_)
      have hP : va_P (dC, dI) vwCl [((b 0), .inr (15, [.int 2, .ref (b 1), .ref (b 2), .int 0, .ref (b 3), .ref (b 4), .ref (b 5), .null, .ref (b 6), .int 0, .int 0, .int 0, .int 0, .int 0]))] H_13 := hP
      have hD : va_D A [((b 0), .inr (15, [.int 2, .ref (b 1), .ref (b 2), .int 0, .ref (b 3), .ref (b 4), .ref (b 5), .null, .ref (b 6), .int 0, .int 0, .int 0, .int 0, .int 0]))] := hD
      refine lv_aload_n hx hb dX13_passes_29 rfl (lv_at hl 0 rfl) ?_
      refine va_get (D := (dC, dI)) (ci := 15) (v := .int 2) (C := RX13) (T := TX13) (N := 14) hx hb hts hiX13 hown hK hP 0 rfl rfl 0 (by decide) hf1 (fun _ h9 => h9) rfl dX13_passes_30 ?_
      refine lv_if_ne (tgt := 40) hx hb dX13_passes_33 (by decide) (fun c_15 => ?_) (fun c_15 => absurd c_15 (by decide))
      refine lv_iconst (v := 0) hx hb dX13_passes_40 (by decide) ?_
      have hq9 : cd B1 B2 B3 = (2 : Int32) := by simp [cd, hB_2, hB_4]
      have hP9 : va_P (dC, dI) vwCl [((b 0), .inr (15, [.int (cd B1 B2 B3), .ref (b 1), .ref (b 2), .int 0, .ref (b 3), .ref (b 4), .ref (b 5), .null, .ref (b 6), .int 0, .int 0, .int 0, .int 0, .int 0]))] H_13 := by rw [hq9]; exact hP
      have hD9 : va_D A [((b 0), .inr (15, [.int (cd B1 B2 B3), .ref (b 1), .ref (b 2), .int 0, .ref (b 3), .ref (b 4), .ref (b 5), .null, .ref (b 6), .int 0, .int 0, .int 0, .int 0, .int 0]))] := by rw [hq9]; exact hD
      exact W.zret (v := 0) hx hb hr rfl (fun t ht hW => ⟨⟨0, (), rfl, by simp [b2i, hB_2, hB_4], ⟨P_at ht hP9, hD9⟩⟩, hS.F ht⟩) hS.2.2 dX13_passes_41
  · have hB_2 : (B1) = false := b2i_0 c_1
    refine lv_iconst (v := 1) hx hb dX13_passes_5 (by decide) ?_
    refine lv_goto (tgt := 26) hx hb dX13_passes_6 (by decide) ?_
    refine va_put (D := (dC, dI)) (ci := 15) (v := .int 1) (ty := .int) (C := RX13) (T := TX13) (N := 14) hx hb hts hiX13 tyX13 tyX13_ok nmX13 hown hK hP hD hS 0 rfl rfl 0 (by decide) hf1 (fun _ h9 => h9) rfl (by decide +kernel) rfl rfl (Nat.le_of_ble_eq_true rfl) dX13_passes_26 (fun H_16 L_17 hP hD hS => ?_)
    have hP : va_P (dC, dI) vwCl [((b 0), .inr (15, [.int 1, .ref (b 1), .ref (b 2), .int 0, .ref (b 3), .ref (b 4), .ref (b 5), .null, .ref (b 6), .int 0, .int 0, .int 0, .int 0, .int 0]))] H_16 := hP
    have hD : va_D A [((b 0), .inr (15, [.int 1, .ref (b 1), .ref (b 2), .int 0, .ref (b 3), .ref (b 4), .ref (b 5), .null, .ref (b 6), .int 0, .int 0, .int 0, .int 0, .int 0]))] := hD
    refine lv_aload_n hx hb dX13_passes_29 rfl (lv_at hl 0 rfl) ?_
    refine va_get (D := (dC, dI)) (ci := 15) (v := .int 1) (C := RX13) (T := TX13) (N := 14) hx hb hts hiX13 hown hK hP 0 rfl rfl 0 (by decide) hf1 (fun _ h9 => h9) rfl dX13_passes_30 ?_
    refine lv_if_ne (tgt := 40) hx hb dX13_passes_33 (by decide) (fun c_18 => ?_) (fun c_18 => absurd c_18 (by decide))
    refine lv_iconst (v := 0) hx hb dX13_passes_40 (by decide) ?_
    have hq9 : cd B1 B2 B3 = (1 : Int32) := by simp [cd, hB_2]
    have hP9 : va_P (dC, dI) vwCl [((b 0), .inr (15, [.int (cd B1 B2 B3), .ref (b 1), .ref (b 2), .int 0, .ref (b 3), .ref (b 4), .ref (b 5), .null, .ref (b 6), .int 0, .int 0, .int 0, .int 0, .int 0]))] H_16 := by rw [hq9]; exact hP
    have hD9 : va_D A [((b 0), .inr (15, [.int (cd B1 B2 B3), .ref (b 1), .ref (b 2), .int 0, .ref (b 3), .ref (b 4), .ref (b 5), .null, .ref (b 6), .int 0, .int 0, .int 0, .int 0, .int 0]))] := by rw [hq9]; exact hD
    exact W.zret (v := 0) hx hb hr rfl (fun t ht hW => ⟨⟨0, (), rfl, by simp [b2i, hB_2], ⟨P_at ht hP9, hD9⟩⟩, hS.F ht⟩) hS.2.2 dX13_passes_41
set_option maxHeartbeats 4000000 in
set_option maxRecDepth 100000 in
theorem c_X13_runs (l : Launch) (dC : Nat → ClassId) (dI : Nat → Nat → Nat) (g : Nat → ClassId) (b : Nat → Nat) (r1 : Nat → Nat) (r2 : Nat → Nat) (x : Int32) (th : Int32) (sz : Nat) : Met l yX13_runs wsX13_runs ({ frames := 7, cells := 4, slots := 12, locals := 149 }) (va_Pc [.ref (b 0), .int x] (PG (dC, dI) g (modW b r1 r2 g th) sz)) (va_Qi (fun (r : Int32) (_ : Unit) => (cd (TOKb x) true true) = 0 → r = 0) (fun (_ : Unit) t => ∃ fs : List Value, va_P (dC, dI) vwCl [(b 0, .inr (15, .int (cd (TOKb x) true true) :: fs))] t.heap) (va_A (modW b r1 r2 g th) sz)) 4 12 (va_A (modW b r1 r2 g th) sz) := by
  refine Met.ofW (cc := cX13_runs) (maxL := 2) (ret := (some .int)) (by decide) rfl ?_
  intro p e s m args below meth c s₁ B hml hv
  obtain ⟨rfl, hsz, hP, hK, hD0, hG⟩ := hv
  have hx := B.exec
  have hb := B.bytes
  have hr := B.returns
  have hts := atoms_spec (ws := wsX13_runs) B.pre
  have hown : s.vm.findClass RX13 = some m.cls := findClass_of_methodNamed B.named
  have hlocks := B.notSynchronized
  subst hsz
  have hD := hD0.self (sz := s.heap.size)
  generalize hAe : va_A (modW b r1 r2 g th) s.heap.size = A at hD hG ⊢
  have hA : ∀ q : Nat, s.heap.size ≤ q → A q := fun q h => by rw [← hAe]; exact Or.inr h
  have hS : va_S A s.heap s.heap [] := va_S.rf
  have hl := lv_entry ([.ref (b 0), .int x]) (n := 2) (Nat.le_of_ble_eq_true rfl)
  rw [lg_entry_eq]
  generalize (lg_sl ([.ref (b 0), .int x]) ++ List.replicate (2 - (lg_sl ([.ref (b 0), .int x])).length) Slot.unset).toArray = ls at hl ⊢
  have hl : lv_has ls 2 [(0, .ref (b 0)), (1, .int x)] := hl
  refine lv_aload_n hx hb dX13_runs_0 rfl (lv_at hl 0 rfl) ?_
  refine lv_iload_n hx hb dX13_runs_1 rfl (lv_at hl 1 rfl) ?_
  refine va_calli (va_runS (As := [.int x]) (rest := [.ref (b 0)]) ⟨hx, hb, hml, hown, hts⟩ (c_X13_isTape l dC dI g (modW b r1 r2 g th) x   s.heap.size) (va_cwS 1 hts gX13_runs_X13_isTape rfl rfl rfl (by decide +kernel) ⟨Nat.le_of_ble_eq_true rfl, Nat.le_of_ble_eq_true rfl⟩) ⟨PG_blind, PG_call hK hG hS hP hD (A_all hD hA hS.1)⟩ rfl rfl hl.1 rfl (lv_room (Nat.le_of_ble_eq_true rfl)) dX13_runs_2 ⟨Nat.le_of_ble_eq_true rfl, Nat.le_of_ble_eq_true rfl⟩) hS (fun q _ h => (A_all hD hA hS.1) q h) (A_all hD hA hS.1) (fun r_1 u_1 t_1 H_1 L_1 ht_1 hvm_1 hw_1 hB_1 hz_1 hk_1 hS => ?_)
  replace hB_1 := (show va_P (dC, dI) vwCl (modW b r1 r2 g th) t_1.heap from hB_1)
  rw [ht_1] at hB_1
  have hP := hB_1
  obtain rfl : r_1 = b2i (TOKb x) := hw_1
  refine lv_iconst (v := 1) hx hb dX13_runs_5 (by decide) ?_
  refine lv_iconst (v := 1) hx hb dX13_runs_6 (by decide) ?_
  refine va_calli (va_runV (As := [.int (b2i (TOKb x)), .int 1, .int 1]) (rest := []) ⟨hx, hb, hml, hown, hts⟩ (c_X13_passes l dC dI g b r1 r2 th (TOKb x) true true  H_1.size) (cwV 3 hts gX13_runs_X13_passes rfl rfl rfl (by decide +kernel) ⟨Nat.le_of_ble_eq_true rfl, Nat.le_of_ble_eq_true rfl⟩) ⟨PG_blind, va_recv hK hP (ci := 15) (q0 := 0) rfl (m_0 b r1 r2 g th), PG_call hK hG hS hP hD (A_all hD hA hS.1)⟩ rfl rfl hl.1 rfl (lv_room (Nat.le_of_ble_eq_true rfl)) dX13_runs_7 ⟨Nat.le_of_ble_eq_true rfl, Nat.le_of_ble_eq_true rfl⟩) hS (fun q _ h => (A_all hD hA hS.1) q h) (A_all hD hA hS.1) (fun r_2 u_2 t_2 H_2 L_2 ht_2 hvm_2 hw_2 hB_2 hz_2 hk_2 hS => ?_)
  rw [ht_2] at hB_2
  have hP : va_P (dC, dI) vwCl (modW b r1 r2 g (cd (TOKb x) true true)) H_2 := hB_2
  have hD : va_D A (modW b r1 r2 g (cd (TOKb x) true true)) := va_D_th hD
  obtain rfl : r_2 = b2i (TOKb x) := hw_2.trans (by simp)
  refine lv_if_eq (tgt := 26) hx hb dX13_runs_10 (by decide) (fun c_3 => ?_) (fun c_3 => ?_)
  · have hB_4 : (TOKb x) = false := b2i_0 c_3
    refine lv_iconst (v := 0) hx hb dX13_runs_26 (by decide) ?_
    refine W.widen (k := 4) (n := 12) (by omega) (by omega) ?_
    have hcd : (cd (TOKb x) true true) = (cd (TOKb x) true true) := rfl
    have hP8 := hP.sub (ws' := [((b 0), .inr (15, [.int (cd (TOKb x) true true), .ref (b 1), .ref (b 2), .int 0, .ref (b 3), .ref (b 4), .ref (b 5), .null, .ref (b 6), .int 0, .int 0, .int 0, .int 0, .int 0]))]) [0] rfl
    rw [hcd] at hP8
    exact W.iret (v := 0) hx hb hr (fun t ht hW => ⟨⟨0, (), rfl, (fun h => by first | rfl | (exact absurd (cd_0.mp h) (by simp [hB_4]))), ⟨[.ref (b 1), .ref (b 2), .int 0, .ref (b 3), .ref (b 4), .ref (b 5), .null, .ref (b 6), .int 0, .int 0, .int 0, .int 0, .int 0], P_at ht hP8⟩⟩, hS.F ht⟩) hS.2.2 dX13_runs_27
  · have hB_4 : (TOKb x) = true := b2i_1 c_3
    obtain ⟨jx, hjx, rfl⟩ := TOK_ex hB_4
    obtain ⟨hP, hD⟩ := mod_x b r1 r2 g (cd (TOKb (nI jx)) true true) jx hjx hP hD
    have hP : va_P (dC, dI) vwCl [((b 0), .inr (15, [.int (cd (TOKb (nI jx)) true true), .ref (b 1), .ref (b 2), .int 0, .ref (b 3), .ref (b 4), .ref (b 5), .null, .ref (b 6), .int 0, .int 0, .int 0, .int 0, .int 0])), ((b 3), .inl (g 4, 8, .inr (.inr (.inr (.inr (fun i => if i < 8 then some (r1 i) else none)))))), ((r1 jx), .inl (g 0, 0, .inl (fun _ => 0))), ((b 1), .inl (g 0, 200, .inl (fun _ => 0))), ((b 2), .inl (g 0, 200, .inl (fun _ => 0))), ((b 5), .inl (g 0, 5, .inl stf))] H_2 := hP
    have hD : va_D A [((b 0), .inr (15, [.int (cd (TOKb (nI jx)) true true), .ref (b 1), .ref (b 2), .int 0, .ref (b 3), .ref (b 4), .ref (b 5), .null, .ref (b 6), .int 0, .int 0, .int 0, .int 0, .int 0])), ((b 3), .inl (g 4, 8, .inr (.inr (.inr (.inr (fun i => if i < 8 then some (r1 i) else none)))))), ((r1 jx), .inl (g 0, 0, .inl (fun _ => 0))), ((b 1), .inl (g 0, 200, .inl (fun _ => 0))), ((b 2), .inl (g 0, 200, .inl (fun _ => 0))), ((b 5), .inl (g 0, 5, .inl stf))] := hD
    refine lv_aload_n hx hb dX13_runs_13 rfl (lv_at hl 0 rfl) ?_
    refine lv_iload_n hx hb dX13_runs_14 rfl (lv_at hl 1 rfl) ?_
    have hPc := hP.sub (ws' := [((b 0), .inr (15, [.int (cd (TOKb (nI jx)) true true), .ref (b 1), .ref (b 2), .int 0, .ref (b 3), .ref (b 4), .ref (b 5), .null, .ref (b 6), .int 0, .int 0, .int 0, .int 0, .int 0])), ((b 3), .inl (g 4, 8, .inr (.inr (.inr (.inr (fun i => if i < 8 then some (r1 i) else none)))))), ((r1 jx), .inl (g 0, 0, .inl (fun _ => 0))), ((b 1), .inl (g 0, 200, .inl (fun _ => 0))), ((b 2), .inl (g 0, 200, .inl (fun _ => 0))), ((b 5), .inl (g 0, 5, .inl stf))]) [0, 1, 2, 3, 4, 5] rfl
    have hDc := hD.sub (ws' := [((b 0), .inr (15, [.int (cd (TOKb (nI jx)) true true), .ref (b 1), .ref (b 2), .int 0, .ref (b 3), .ref (b 4), .ref (b 5), .null, .ref (b 6), .int 0, .int 0, .int 0, .int 0, .int 0])), ((b 3), .inl (g 4, 8, .inr (.inr (.inr (.inr (fun i => if i < 8 then some (r1 i) else none)))))), ((r1 jx), .inl (g 0, 0, .inl (fun _ => 0))), ((b 1), .inl (g 0, 200, .inl (fun _ => 0))), ((b 2), .inl (g 0, 200, .inl (fun _ => 0))), ((b 5), .inl (g 0, 5, .inl stf))]) [0, 1, 2, 3, 4, 5] (by decide) rfl
    have hFc := va_free (wc := [((b 0), .inr (15, [.int (cd (TOKb (nI jx)) true true), .ref (b 1), .ref (b 2), .int 0, .ref (b 3), .ref (b 4), .ref (b 5), .null, .ref (b 6), .int 0, .int 0, .int 0, .int 0, .int 0])), ((b 3), .inl (g 4, 8, .inr (.inr (.inr (.inr (fun i => if i < 8 then some (r1 i) else none)))))), ((r1 jx), .inl (g 0, 0, .inl (fun _ => 0))), ((b 1), .inl (g 0, 200, .inl (fun _ => 0))), ((b 2), .inl (g 0, 200, .inl (fun _ => 0))), ((b 5), .inl (g 0, 5, .inl stf))]) hD hS hA [0, 1, 2, 3, 4, 5] rfl
    refine va_callq (va_runV (As := [.int (nI jx)]) (rest := []) ⟨hx, hb, hml, hown, hts⟩ (c_X13_runsNow l dC dI g b r1 r2 jx (cd (TOKb (nI jx)) true true) hjx H_2.size) (cwV 1 hts gX13_runs_X13_runsNow rfl rfl rfl (by decide +kernel) ⟨Nat.le_of_ble_eq_true rfl, Nat.le_of_ble_eq_true rfl⟩) ⟨PG_blind, va_recv hK hP (ci := 15) (q0 := 0) rfl rfl, PG_call hK hG hS hPc hDc hFc⟩ rfl rfl hl.1 rfl (lv_room (Nat.le_of_ble_eq_true rfl)) dX13_runs_15 ⟨Nat.le_of_ble_eq_true rfl, Nat.le_of_ble_eq_true rfl⟩) hS (fun q _ h => hFc q h) hFc (fun r_5 u_5 t_5 H_5 L_5 ht_5 hvm_5 hw_5 hB_5 hz_5 hk_5 hS => ?_)
    obtain ⟨hP1, hD1⟩ := hB_5
    rw [ht_5] at hP1
    obtain ⟨hP, hD⟩ := va_join (wr := []) (w1 := [((b 0), .inr (15, [.int (cd (TOKb (nI jx)) true true), .ref (b 1), .ref (b 2), .int 0, .ref (b 3), .ref (b 4), .ref (b 5), .null, .ref (b 6), .int 0, .int 0, .int 0, .int 0, .int 0])), ((b 3), .inl (g 4, 8, .inr (.inr (.inr (.inr (fun i => if i < 8 then some (r1 i) else none)))))), ((r1 jx), .inl (g 0, 0, .inl (fun _ => 0))), ((b 1), .inl (g 0, 200, .inl (fun _ => 0))), ((b 2), .inl (g 0, 200, .inl (fun _ => 0))), ((b 5), .inl (g 0, 5, .inl stf)), ((u_5 0), .inr (1, [.int 0, .ref (g 10), .int 0]))]) hP hD [0, 1, 2, 3, 4, 5] [] rfl rfl (by decide) (by decide) hk_5 hFc hP1 hD1
    have hP : va_P (dC, dI) vwCl [((b 0), .inr (15, [.int (cd (TOKb (nI jx)) true true), .ref (b 1), .ref (b 2), .int 0, .ref (b 3), .ref (b 4), .ref (b 5), .null, .ref (b 6), .int 0, .int 0, .int 0, .int 0, .int 0])), ((b 3), .inl (g 4, 8, .inr (.inr (.inr (.inr (fun i => if i < 8 then some (r1 i) else none)))))), ((r1 jx), .inl (g 0, 0, .inl (fun _ => 0))), ((b 1), .inl (g 0, 200, .inl (fun _ => 0))), ((b 2), .inl (g 0, 200, .inl (fun _ => 0))), ((b 5), .inl (g 0, 5, .inl stf)), ((u_5 0), .inr (1, [.int 0, .ref (g 10), .int 0]))] H_5 := hP
    have hD : va_D A [((b 0), .inr (15, [.int (cd (TOKb (nI jx)) true true), .ref (b 1), .ref (b 2), .int 0, .ref (b 3), .ref (b 4), .ref (b 5), .null, .ref (b 6), .int 0, .int 0, .int 0, .int 0, .int 0])), ((b 3), .inl (g 4, 8, .inr (.inr (.inr (.inr (fun i => if i < 8 then some (r1 i) else none)))))), ((r1 jx), .inl (g 0, 0, .inl (fun _ => 0))), ((b 1), .inl (g 0, 200, .inl (fun _ => 0))), ((b 2), .inl (g 0, 200, .inl (fun _ => 0))), ((b 5), .inl (g 0, 5, .inl stf)), ((u_5 0), .inr (1, [.int 0, .ref (g 10), .int 0]))] := hD
    refine W.widen (k := 4) (n := 12) (by omega) (by omega) ?_
    obtain rfl : r_5 = some (u_5 0) := hw_5
    refine W.eq (g2 := F0 m 18 ls [.ref (u_5 0)]) rfl ?_
    refine va_callFi (va_runF (As := []) (rest := []) (hK.1 1 _ rfl).2 ⟨hx, hb, hml, hown, hts⟩ (c_Jx4a65c_size_8abf5 l dC dI g [((b 0), .inr (15, [.int (cd (TOKb (nI jx)) true true), .ref (b 1), .ref (b 2), .int 0, .ref (b 3), .ref (b 4), .ref (b 5), .null, .ref (b 6), .int 0, .int 0, .int 0, .int 0, .int 0])), ((b 3), .inl (g 4, 8, .inr (.inr (.inr (.inr (fun i => if i < 8 then some (r1 i) else none)))))), ((r1 jx), .inl (g 0, 0, .inl (fun _ => 0))), ((b 1), .inl (g 0, 200, .inl (fun _ => 0))), ((b 2), .inl (g 0, 200, .inl (fun _ => 0))), ((b 5), .inl (g 0, 5, .inl stf)), ((u_5 0), .inr (1, [.int 0, .ref (g 10), .int 0]))] (u_5 0) 0 0 (some (g 10)) 6 rfl  H_5.size) (va_cwF 0 hts gX13_runs_Jx4a65c_size_8abf5_f79Jx4a65c rfl rfl rfl (fw_1 hG) (by decide +kernel) ⟨Nat.le_of_ble_eq_true rfl, Nat.le_of_ble_eq_true rfl⟩) ⟨PG_blind, va_recv hK hP (ci := 1) (q0 := 6) rfl rfl, PG_call hK hG hS hP hD (A_all hD hA hS.1)⟩ rfl rfl hl.1 rfl (lv_room (Nat.le_of_ble_eq_true rfl)) dX13_runs_18 ⟨Nat.le_of_ble_eq_true rfl, Nat.le_of_ble_eq_true rfl⟩) hS (fun q _ h => (A_all hD hA hS.1) q h) (A_all hD hA hS.1) (fun r_6 u_6 t_6 H_6 L_6 ht_6 hvm_6 hw_6 hB_6 hz_6 hk_6 hS => ?_)
    replace hB_6 := (show va_P (dC, dI) vwCl [((b 0), .inr (15, [.int (cd (TOKb (nI jx)) true true), .ref (b 1), .ref (b 2), .int 0, .ref (b 3), .ref (b 4), .ref (b 5), .null, .ref (b 6), .int 0, .int 0, .int 0, .int 0, .int 0])), ((b 3), .inl (g 4, 8, .inr (.inr (.inr (.inr (fun i => if i < 8 then some (r1 i) else none)))))), ((r1 jx), .inl (g 0, 0, .inl (fun _ => 0))), ((b 1), .inl (g 0, 200, .inl (fun _ => 0))), ((b 2), .inl (g 0, 200, .inl (fun _ => 0))), ((b 5), .inl (g 0, 5, .inl stf)), ((u_5 0), .inr (1, [.int 0, .ref (g 10), .int 0]))] t_6.heap from hB_6)
    rw [ht_6] at hB_6
    have hP := hB_6
    obtain rfl : r_6 = 0 := hw_6
    refine lv_goto (tgt := 27) hx hb dX13_runs_23 (by decide) ?_
    have hcd : (cd (TOKb (nI jx)) true true) = (cd (TOKb (nI jx)) true true) := rfl
    have hP8 := hP.sub (ws' := [((b 0), .inr (15, [.int (cd (TOKb (nI jx)) true true), .ref (b 1), .ref (b 2), .int 0, .ref (b 3), .ref (b 4), .ref (b 5), .null, .ref (b 6), .int 0, .int 0, .int 0, .int 0, .int 0]))]) [0] rfl
    rw [hcd] at hP8
    exact W.iret (v := 0) hx hb hr (fun t ht hW => ⟨⟨0, (), rfl, (fun h => by first | rfl | (exact absurd (cd_0.mp h) (by simp [(TOK_j hjx rfl)]))), ⟨[.ref (b 1), .ref (b 2), .int 0, .ref (b 3), .ref (b 4), .ref (b 5), .null, .ref (b 6), .int 0, .int 0, .int 0, .int 0, .int 0], P_at ht hP8⟩⟩, hS.F ht⟩) hS.2.2 dX13_runs_27
set_option maxHeartbeats 4000000 in
set_option maxRecDepth 100000 in
theorem c_X13_runLength (l : Launch) (dC : Nat → ClassId) (dI : Nat → Nat → Nat) (g : Nat → ClassId) (b : Nat → Nat) (r1 : Nat → Nat) (r2 : Nat → Nat) (x : Int32) (rn : Int32) (th : Int32) (sz : Nat) : Met l yX13_runLength wsX13_runLength ({ frames := 7, cells := 4, slots := 12, locals := 149 }) (va_Pc [.ref (b 0), .int x, .int rn] (PG (dC, dI) g (modW b r1 r2 g th) sz)) (va_Qi (fun (_ : Int32) (_ : Unit) => True) (fun (_ : Unit) t => ∃ fs : List Value, va_P (dC, dI) vwCl [(b 0, .inr (15, .int (cd false true true) :: fs))] t.heap) (va_A (modW b r1 r2 g th) sz)) 4 12 (va_A (modW b r1 r2 g th) sz) := by
  refine Met.ofW (cc := cX13_runLength) (maxL := 4) (ret := (some .int)) (by decide) rfl ?_
  intro p e s m args below meth c s₁ B hml hv
  obtain ⟨rfl, hsz, hP, hK, hD0, hG⟩ := hv
  have hx := B.exec
  have hb := B.bytes
  have hr := B.returns
  have hts := atoms_spec (ws := wsX13_runLength) B.pre
  have hown : s.vm.findClass RX13 = some m.cls := findClass_of_methodNamed B.named
  have hlocks := B.notSynchronized
  subst hsz
  have hD := hD0.self (sz := s.heap.size)
  generalize hAe : va_A (modW b r1 r2 g th) s.heap.size = A at hD hG ⊢
  have hA : ∀ q : Nat, s.heap.size ≤ q → A q := fun q h => by rw [← hAe]; exact Or.inr h
  have hS : va_S A s.heap s.heap [] := va_S.rf
  have hl := lv_entry ([.ref (b 0), .int x, .int rn]) (n := 4) (Nat.le_of_ble_eq_true rfl)
  rw [lg_entry_eq]
  generalize (lg_sl ([.ref (b 0), .int x, .int rn]) ++ List.replicate (4 - (lg_sl ([.ref (b 0), .int x, .int rn])).length) Slot.unset).toArray = ls at hl ⊢
  have hl : lv_has ls 4 [(0, .ref (b 0)), (1, .int x), (2, .int rn)] := hl
  refine lv_iload_n hx hb dX13_runLength_0 rfl (lv_at hl 1 rfl) ?_
  refine va_calli (va_runS (As := [.int x]) (rest := []) ⟨hx, hb, hml, hown, hts⟩ (c_X13_isTape l dC dI g (modW b r1 r2 g th) x   s.heap.size) (va_cwS 1 hts gX13_runLength_X13_isTape rfl rfl rfl (by decide +kernel) ⟨Nat.le_of_ble_eq_true rfl, Nat.le_of_ble_eq_true rfl⟩) ⟨PG_blind, PG_call hK hG hS hP hD (A_all hD hA hS.1)⟩ rfl rfl hl.1 rfl (lv_room (Nat.le_of_ble_eq_true rfl)) dX13_runLength_1 ⟨Nat.le_of_ble_eq_true rfl, Nat.le_of_ble_eq_true rfl⟩) hS (fun q _ h => (A_all hD hA hS.1) q h) (A_all hD hA hS.1) (fun r_1 u_1 t_1 H_1 L_1 ht_1 hvm_1 hw_1 hB_1 hz_1 hk_1 hS => ?_)
  replace hB_1 := (show va_P (dC, dI) vwCl (modW b r1 r2 g th) t_1.heap from hB_1)
  rw [ht_1] at hB_1
  have hP := hB_1
  obtain rfl : r_1 = b2i (TOKb x) := hw_1
  refine lv_if_eq (tgt := 29) hx hb dX13_runLength_4 (by decide) (fun c_2 => ?_) (fun c_2 => ?_)
  · have hB_3 : (TOKb x) = false := b2i_0 c_2
    refine lv_iconst (v := 0) hx hb dX13_runLength_29 (by decide) ?_
    refine lv_istore_n (lv' := [(3, .int 0), (0, .ref (b 0)), (1, .int x), (2, .int rn)]) hx hb dX13_runLength_30 rfl hl (by decide) rfl (fun ls hl => ?_)
    refine lv_aload_n hx hb dX13_runLength_31 rfl (lv_at hl 1 rfl) ?_
    refine lv_iload_n hx hb dX13_runLength_32 rfl (lv_at hl 0 rfl) ?_
    refine lv_iconst (v := 1) hx hb dX13_runLength_33 (by decide) ?_
    refine lv_iconst (v := 1) hx hb dX13_runLength_34 (by decide) ?_
    refine va_calli (va_runV (As := [.int 0, .int 1, .int 1]) (rest := []) ⟨hx, hb, hml, hown, hts⟩ (c_X13_passes l dC dI g b r1 r2 th false true true  H_1.size) (cwV 3 hts gX13_runLength_X13_passes rfl rfl rfl (by decide +kernel) ⟨Nat.le_of_ble_eq_true rfl, Nat.le_of_ble_eq_true rfl⟩) ⟨PG_blind, va_recv hK hP (ci := 15) (q0 := 0) rfl (m_0 b r1 r2 g th), PG_call hK hG hS hP hD (A_all hD hA hS.1)⟩ rfl rfl hl.1 rfl (lv_room (Nat.le_of_ble_eq_true rfl)) dX13_runLength_35 ⟨Nat.le_of_ble_eq_true rfl, Nat.le_of_ble_eq_true rfl⟩) hS (fun q _ h => (A_all hD hA hS.1) q h) (A_all hD hA hS.1) (fun r_4 u_4 t_4 H_4 L_4 ht_4 hvm_4 hw_4 hB_4 hz_4 hk_4 hS => ?_)
    rw [ht_4] at hB_4
    have hP : va_P (dC, dI) vwCl (modW b r1 r2 g (cd false true true)) H_4 := hB_4
    have hD : va_D A (modW b r1 r2 g (cd false true true)) := va_D_th hD
    obtain rfl : r_4 = 0 := hw_4.trans (by simp [b2i])
    refine lv_if_eq (tgt := 59) hx hb dX13_runLength_38 (by decide) (fun c_5 => ?_) (fun c_5 => absurd (by decide) c_5)
    refine lv_iconst (v := 0) hx hb dX13_runLength_59 (by decide) ?_
    refine W.widen (k := 4) (n := 12) (by omega) (by omega) ?_
    have hcd : (cd false true true) = (cd false true true) := rfl
    have hP8 := hP.sub (ws' := [((b 0), .inr (15, [.int (cd false true true), .ref (b 1), .ref (b 2), .int 0, .ref (b 3), .ref (b 4), .ref (b 5), .null, .ref (b 6), .int 0, .int 0, .int 0, .int 0, .int 0]))]) [0] rfl
    rw [hcd] at hP8
    exact W.iret (v := 0) hx hb hr (fun t ht hW => ⟨⟨0, (), rfl, trivial, ⟨[.ref (b 1), .ref (b 2), .int 0, .ref (b 3), .ref (b 4), .ref (b 5), .null, .ref (b 6), .int 0, .int 0, .int 0, .int 0, .int 0], P_at ht hP8⟩⟩, hS.F ht⟩) hS.2.2 dX13_runLength_60
  · have hB_3 : (TOKb x) = true := b2i_1 c_2
    obtain ⟨jx, hjx, rfl⟩ := TOK_ex hB_3
    refine lv_iload_n hx hb dX13_runLength_7 rfl (lv_at hl 2 rfl) ?_
    refine lv_if_lt (tgt := 29) hx hb dX13_runLength_8 (by decide) (fun c_6 => ?_) (fun c_6 => ?_)
    · refine lv_iconst (v := 0) hx hb dX13_runLength_29 (by decide) ?_
      refine lv_istore_n (lv' := [(3, .int 0), (0, .ref (b 0)), (1, .int (nI jx)), (2, .int rn)]) hx hb dX13_runLength_30 rfl hl (by decide) rfl (fun ls hl => ?_)
      refine lv_aload_n hx hb dX13_runLength_31 rfl (lv_at hl 1 rfl) ?_
      refine lv_iload_n hx hb dX13_runLength_32 rfl (lv_at hl 0 rfl) ?_
      refine lv_iconst (v := 1) hx hb dX13_runLength_33 (by decide) ?_
      refine lv_iconst (v := 1) hx hb dX13_runLength_34 (by decide) ?_
      refine va_calli (va_runV (As := [.int 0, .int 1, .int 1]) (rest := []) ⟨hx, hb, hml, hown, hts⟩ (c_X13_passes l dC dI g b r1 r2 th false true true  H_1.size) (cwV 3 hts gX13_runLength_X13_passes rfl rfl rfl (by decide +kernel) ⟨Nat.le_of_ble_eq_true rfl, Nat.le_of_ble_eq_true rfl⟩) ⟨PG_blind, va_recv hK hP (ci := 15) (q0 := 0) rfl (m_0 b r1 r2 g th), PG_call hK hG hS hP hD (A_all hD hA hS.1)⟩ rfl rfl hl.1 rfl (lv_room (Nat.le_of_ble_eq_true rfl)) dX13_runLength_35 ⟨Nat.le_of_ble_eq_true rfl, Nat.le_of_ble_eq_true rfl⟩) hS (fun q _ h => (A_all hD hA hS.1) q h) (A_all hD hA hS.1) (fun r_7 u_7 t_7 H_7 L_7 ht_7 hvm_7 hw_7 hB_7 hz_7 hk_7 hS => ?_)
      rw [ht_7] at hB_7
      have hP : va_P (dC, dI) vwCl (modW b r1 r2 g (cd false true true)) H_7 := hB_7
      have hD : va_D A (modW b r1 r2 g (cd false true true)) := va_D_th hD
      obtain rfl : r_7 = 0 := hw_7.trans (by simp [b2i])
      refine lv_if_eq (tgt := 59) hx hb dX13_runLength_38 (by decide) (fun c_8 => ?_) (fun c_8 => absurd (by decide) c_8)
      refine lv_iconst (v := 0) hx hb dX13_runLength_59 (by decide) ?_
      refine W.widen (k := 4) (n := 12) (by omega) (by omega) ?_
      have hcd : (cd false true true) = (cd false true true) := rfl
      have hP8 := hP.sub (ws' := [((b 0), .inr (15, [.int (cd false true true), .ref (b 1), .ref (b 2), .int 0, .ref (b 3), .ref (b 4), .ref (b 5), .null, .ref (b 6), .int 0, .int 0, .int 0, .int 0, .int 0]))]) [0] rfl
      rw [hcd] at hP8
      exact W.iret (v := 0) hx hb hr (fun t ht hW => ⟨⟨0, (), rfl, trivial, ⟨[.ref (b 1), .ref (b 2), .int 0, .ref (b 3), .ref (b 4), .ref (b 5), .null, .ref (b 6), .int 0, .int 0, .int 0, .int 0, .int 0], P_at ht hP8⟩⟩, hS.F ht⟩) hS.2.2 dX13_runLength_60
    · refine lv_iload_n hx hb dX13_runLength_11 rfl (lv_at hl 2 rfl) ?_
      obtain ⟨hP, hD⟩ := mod_x b r1 r2 g th jx hjx hP hD
      have hP : va_P (dC, dI) vwCl [((b 0), .inr (15, [.int th, .ref (b 1), .ref (b 2), .int 0, .ref (b 3), .ref (b 4), .ref (b 5), .null, .ref (b 6), .int 0, .int 0, .int 0, .int 0, .int 0])), ((b 3), .inl (g 4, 8, .inr (.inr (.inr (.inr (fun i => if i < 8 then some (r1 i) else none)))))), ((r1 jx), .inl (g 0, 0, .inl (fun _ => 0))), ((b 1), .inl (g 0, 200, .inl (fun _ => 0))), ((b 2), .inl (g 0, 200, .inl (fun _ => 0))), ((b 5), .inl (g 0, 5, .inl stf))] H_1 := hP
      have hD : va_D A [((b 0), .inr (15, [.int th, .ref (b 1), .ref (b 2), .int 0, .ref (b 3), .ref (b 4), .ref (b 5), .null, .ref (b 6), .int 0, .int 0, .int 0, .int 0, .int 0])), ((b 3), .inl (g 4, 8, .inr (.inr (.inr (.inr (fun i => if i < 8 then some (r1 i) else none)))))), ((r1 jx), .inl (g 0, 0, .inl (fun _ => 0))), ((b 1), .inl (g 0, 200, .inl (fun _ => 0))), ((b 2), .inl (g 0, 200, .inl (fun _ => 0))), ((b 5), .inl (g 0, 5, .inl stf))] := hD
      refine lv_aload_n hx hb dX13_runLength_12 rfl (lv_at hl 0 rfl) ?_
      refine lv_iload_n hx hb dX13_runLength_13 rfl (lv_at hl 1 rfl) ?_
      have hPc := hP.sub (ws' := [((b 0), .inr (15, [.int th, .ref (b 1), .ref (b 2), .int 0, .ref (b 3), .ref (b 4), .ref (b 5), .null, .ref (b 6), .int 0, .int 0, .int 0, .int 0, .int 0])), ((b 3), .inl (g 4, 8, .inr (.inr (.inr (.inr (fun i => if i < 8 then some (r1 i) else none)))))), ((r1 jx), .inl (g 0, 0, .inl (fun _ => 0))), ((b 1), .inl (g 0, 200, .inl (fun _ => 0))), ((b 2), .inl (g 0, 200, .inl (fun _ => 0))), ((b 5), .inl (g 0, 5, .inl stf))]) [0, 1, 2, 3, 4, 5] rfl
      have hDc := hD.sub (ws' := [((b 0), .inr (15, [.int th, .ref (b 1), .ref (b 2), .int 0, .ref (b 3), .ref (b 4), .ref (b 5), .null, .ref (b 6), .int 0, .int 0, .int 0, .int 0, .int 0])), ((b 3), .inl (g 4, 8, .inr (.inr (.inr (.inr (fun i => if i < 8 then some (r1 i) else none)))))), ((r1 jx), .inl (g 0, 0, .inl (fun _ => 0))), ((b 1), .inl (g 0, 200, .inl (fun _ => 0))), ((b 2), .inl (g 0, 200, .inl (fun _ => 0))), ((b 5), .inl (g 0, 5, .inl stf))]) [0, 1, 2, 3, 4, 5] (by decide) rfl
      have hFc := va_free (wc := [((b 0), .inr (15, [.int th, .ref (b 1), .ref (b 2), .int 0, .ref (b 3), .ref (b 4), .ref (b 5), .null, .ref (b 6), .int 0, .int 0, .int 0, .int 0, .int 0])), ((b 3), .inl (g 4, 8, .inr (.inr (.inr (.inr (fun i => if i < 8 then some (r1 i) else none)))))), ((r1 jx), .inl (g 0, 0, .inl (fun _ => 0))), ((b 1), .inl (g 0, 200, .inl (fun _ => 0))), ((b 2), .inl (g 0, 200, .inl (fun _ => 0))), ((b 5), .inl (g 0, 5, .inl stf))]) hD hS hA [0, 1, 2, 3, 4, 5] rfl
      refine va_callq (va_runV (As := [.int (nI jx)]) (rest := [.int rn]) ⟨hx, hb, hml, hown, hts⟩ (c_X13_runsNow l dC dI g b r1 r2 jx th hjx H_1.size) (cwV 1 hts gX13_runLength_X13_runsNow rfl rfl rfl (by decide +kernel) ⟨Nat.le_of_ble_eq_true rfl, Nat.le_of_ble_eq_true rfl⟩) ⟨PG_blind, va_recv hK hP (ci := 15) (q0 := 0) rfl rfl, PG_call hK hG hS hPc hDc hFc⟩ rfl rfl hl.1 rfl (lv_room (Nat.le_of_ble_eq_true rfl)) dX13_runLength_14 ⟨Nat.le_of_ble_eq_true rfl, Nat.le_of_ble_eq_true rfl⟩) hS (fun q _ h => hFc q h) hFc (fun r_9 u_9 t_9 H_9 L_9 ht_9 hvm_9 hw_9 hB_9 hz_9 hk_9 hS => ?_)
      obtain ⟨hP1, hD1⟩ := hB_9
      rw [ht_9] at hP1
      obtain ⟨hP, hD⟩ := va_join (wr := []) (w1 := [((b 0), .inr (15, [.int th, .ref (b 1), .ref (b 2), .int 0, .ref (b 3), .ref (b 4), .ref (b 5), .null, .ref (b 6), .int 0, .int 0, .int 0, .int 0, .int 0])), ((b 3), .inl (g 4, 8, .inr (.inr (.inr (.inr (fun i => if i < 8 then some (r1 i) else none)))))), ((r1 jx), .inl (g 0, 0, .inl (fun _ => 0))), ((b 1), .inl (g 0, 200, .inl (fun _ => 0))), ((b 2), .inl (g 0, 200, .inl (fun _ => 0))), ((b 5), .inl (g 0, 5, .inl stf)), ((u_9 0), .inr (1, [.int 0, .ref (g 10), .int 0]))]) hP hD [0, 1, 2, 3, 4, 5] [] rfl rfl (by decide) (by decide) hk_9 hFc hP1 hD1
      have hP : va_P (dC, dI) vwCl [((b 0), .inr (15, [.int th, .ref (b 1), .ref (b 2), .int 0, .ref (b 3), .ref (b 4), .ref (b 5), .null, .ref (b 6), .int 0, .int 0, .int 0, .int 0, .int 0])), ((b 3), .inl (g 4, 8, .inr (.inr (.inr (.inr (fun i => if i < 8 then some (r1 i) else none)))))), ((r1 jx), .inl (g 0, 0, .inl (fun _ => 0))), ((b 1), .inl (g 0, 200, .inl (fun _ => 0))), ((b 2), .inl (g 0, 200, .inl (fun _ => 0))), ((b 5), .inl (g 0, 5, .inl stf)), ((u_9 0), .inr (1, [.int 0, .ref (g 10), .int 0]))] H_9 := hP
      have hD : va_D A [((b 0), .inr (15, [.int th, .ref (b 1), .ref (b 2), .int 0, .ref (b 3), .ref (b 4), .ref (b 5), .null, .ref (b 6), .int 0, .int 0, .int 0, .int 0, .int 0])), ((b 3), .inl (g 4, 8, .inr (.inr (.inr (.inr (fun i => if i < 8 then some (r1 i) else none)))))), ((r1 jx), .inl (g 0, 0, .inl (fun _ => 0))), ((b 1), .inl (g 0, 200, .inl (fun _ => 0))), ((b 2), .inl (g 0, 200, .inl (fun _ => 0))), ((b 5), .inl (g 0, 5, .inl stf)), ((u_9 0), .inr (1, [.int 0, .ref (g 10), .int 0]))] := hD
      refine W.widen (k := 4) (n := 12) (by omega) (by omega) ?_
      obtain rfl : r_9 = some (u_9 0) := hw_9
      refine W.eq (g2 := F0 m 17 ls [.ref (u_9 0), .int rn]) rfl ?_
      refine va_callFi (va_runF (As := []) (rest := [.int rn]) (hK.1 1 _ rfl).2 ⟨hx, hb, hml, hown, hts⟩ (c_Jx4a65c_size_8abf5 l dC dI g [((b 0), .inr (15, [.int th, .ref (b 1), .ref (b 2), .int 0, .ref (b 3), .ref (b 4), .ref (b 5), .null, .ref (b 6), .int 0, .int 0, .int 0, .int 0, .int 0])), ((b 3), .inl (g 4, 8, .inr (.inr (.inr (.inr (fun i => if i < 8 then some (r1 i) else none)))))), ((r1 jx), .inl (g 0, 0, .inl (fun _ => 0))), ((b 1), .inl (g 0, 200, .inl (fun _ => 0))), ((b 2), .inl (g 0, 200, .inl (fun _ => 0))), ((b 5), .inl (g 0, 5, .inl stf)), ((u_9 0), .inr (1, [.int 0, .ref (g 10), .int 0]))] (u_9 0) 0 0 (some (g 10)) 6 rfl  H_9.size) (va_cwF 0 hts gX13_runLength_Jx4a65c_size_8abf5_f79Jx4a65c rfl rfl rfl (fw_1 hG) (by decide +kernel) ⟨Nat.le_of_ble_eq_true rfl, Nat.le_of_ble_eq_true rfl⟩) ⟨PG_blind, va_recv hK hP (ci := 1) (q0 := 6) rfl rfl, PG_call hK hG hS hP hD (A_all hD hA hS.1)⟩ rfl rfl hl.1 rfl (lv_room (Nat.le_of_ble_eq_true rfl)) dX13_runLength_17 ⟨Nat.le_of_ble_eq_true rfl, Nat.le_of_ble_eq_true rfl⟩) hS (fun q _ h => (A_all hD hA hS.1) q h) (A_all hD hA hS.1) (fun r_10 u_10 t_10 H_10 L_10 ht_10 hvm_10 hw_10 hB_10 hz_10 hk_10 hS => ?_)
      replace hB_10 := (show va_P (dC, dI) vwCl [((b 0), .inr (15, [.int th, .ref (b 1), .ref (b 2), .int 0, .ref (b 3), .ref (b 4), .ref (b 5), .null, .ref (b 6), .int 0, .int 0, .int 0, .int 0, .int 0])), ((b 3), .inl (g 4, 8, .inr (.inr (.inr (.inr (fun i => if i < 8 then some (r1 i) else none)))))), ((r1 jx), .inl (g 0, 0, .inl (fun _ => 0))), ((b 1), .inl (g 0, 200, .inl (fun _ => 0))), ((b 2), .inl (g 0, 200, .inl (fun _ => 0))), ((b 5), .inl (g 0, 5, .inl stf)), ((u_9 0), .inr (1, [.int 0, .ref (g 10), .int 0]))] t_10.heap from hB_10)
      rw [ht_10] at hB_10
      have hP := hB_10
      obtain rfl : r_10 = 0 := hw_10
      refine lv_icmp_ge (tgt := 29) hx hb dX13_runLength_22 (by decide) (fun c_11 => ?_) (fun c_11 => absurd (i_nlt.mp c_6) c_11)
      refine lv_iconst (v := 0) hx hb dX13_runLength_29 (by decide) ?_
      refine lv_istore_n (lv' := [(3, .int 0), (0, .ref (b 0)), (1, .int (nI jx)), (2, .int rn)]) hx hb dX13_runLength_30 rfl hl (by decide) rfl (fun ls hl => ?_)
      refine lv_aload_n hx hb dX13_runLength_31 rfl (lv_at hl 1 rfl) ?_
      refine lv_iload_n hx hb dX13_runLength_32 rfl (lv_at hl 0 rfl) ?_
      refine lv_iconst (v := 1) hx hb dX13_runLength_33 (by decide) ?_
      refine lv_iconst (v := 1) hx hb dX13_runLength_34 (by decide) ?_
      have hPc := hP.sub (ws' := [((b 0), .inr (15, [.int th, .ref (b 1), .ref (b 2), .int 0, .ref (b 3), .ref (b 4), .ref (b 5), .null, .ref (b 6), .int 0, .int 0, .int 0, .int 0, .int 0]))]) [0] rfl
      have hDc := hD.sub (ws' := [((b 0), .inr (15, [.int th, .ref (b 1), .ref (b 2), .int 0, .ref (b 3), .ref (b 4), .ref (b 5), .null, .ref (b 6), .int 0, .int 0, .int 0, .int 0, .int 0]))]) [0] (by decide) rfl
      have hFc := va_free (wc := [((b 0), .inr (15, [.int th, .ref (b 1), .ref (b 2), .int 0, .ref (b 3), .ref (b 4), .ref (b 5), .null, .ref (b 6), .int 0, .int 0, .int 0, .int 0, .int 0]))]) hD hS hA [0] rfl
      refine va_calli (va_runV (As := [.int 0, .int 1, .int 1]) (rest := []) ⟨hx, hb, hml, hown, hts⟩ (c_X13_passes_x l dC dI g b r1 r2 th false true true  H_10.size) (cwV 3 hts gX13_runLength_X13_passes rfl rfl rfl (by decide +kernel) ⟨Nat.le_of_ble_eq_true rfl, Nat.le_of_ble_eq_true rfl⟩) ⟨PG_blind, va_recv hK hP (ci := 15) (q0 := 0) rfl rfl, PG_call hK hG hS hPc hDc hFc⟩ rfl rfl hl.1 rfl (lv_room (Nat.le_of_ble_eq_true rfl)) dX13_runLength_35 ⟨Nat.le_of_ble_eq_true rfl, Nat.le_of_ble_eq_true rfl⟩) hS (fun q _ h => hFc q h) hFc (fun r_12 u_12 t_12 H_12 L_12 ht_12 hvm_12 hw_12 hB_12 hz_12 hk_12 hS => ?_)
      obtain ⟨hP1, hD1⟩ := hB_12
      rw [ht_12] at hP1
      obtain ⟨hP, hD⟩ := va_join (wr := [((b 3), .inl (g 4, 8, .inr (.inr (.inr (.inr (fun i => if i < 8 then some (r1 i) else none)))))), ((r1 jx), .inl (g 0, 0, .inl (fun _ => 0))), ((b 1), .inl (g 0, 200, .inl (fun _ => 0))), ((b 2), .inl (g 0, 200, .inl (fun _ => 0))), ((b 5), .inl (g 0, 5, .inl stf)), ((u_9 0), .inr (1, [.int 0, .ref (g 10), .int 0]))]) (w1 := [((b 0), .inr (15, [.int (cd false true true), .ref (b 1), .ref (b 2), .int 0, .ref (b 3), .ref (b 4), .ref (b 5), .null, .ref (b 6), .int 0, .int 0, .int 0, .int 0, .int 0]))]) hP hD [0] [1, 2, 3, 4, 5, 6] rfl rfl (by decide) (by decide) hk_12 hFc hP1 hD1
      have hP : va_P (dC, dI) vwCl [((b 3), .inl (g 4, 8, .inr (.inr (.inr (.inr (fun i => if i < 8 then some (r1 i) else none)))))), ((r1 jx), .inl (g 0, 0, .inl (fun _ => 0))), ((b 1), .inl (g 0, 200, .inl (fun _ => 0))), ((b 2), .inl (g 0, 200, .inl (fun _ => 0))), ((b 5), .inl (g 0, 5, .inl stf)), ((u_9 0), .inr (1, [.int 0, .ref (g 10), .int 0])), ((b 0), .inr (15, [.int (cd false true true), .ref (b 1), .ref (b 2), .int 0, .ref (b 3), .ref (b 4), .ref (b 5), .null, .ref (b 6), .int 0, .int 0, .int 0, .int 0, .int 0]))] H_12 := hP
      have hD : va_D A [((b 3), .inl (g 4, 8, .inr (.inr (.inr (.inr (fun i => if i < 8 then some (r1 i) else none)))))), ((r1 jx), .inl (g 0, 0, .inl (fun _ => 0))), ((b 1), .inl (g 0, 200, .inl (fun _ => 0))), ((b 2), .inl (g 0, 200, .inl (fun _ => 0))), ((b 5), .inl (g 0, 5, .inl stf)), ((u_9 0), .inr (1, [.int 0, .ref (g 10), .int 0])), ((b 0), .inr (15, [.int (cd false true true), .ref (b 1), .ref (b 2), .int 0, .ref (b 3), .ref (b 4), .ref (b 5), .null, .ref (b 6), .int 0, .int 0, .int 0, .int 0, .int 0]))] := hD
      obtain rfl : r_12 = 0 := hw_12.trans (by simp [b2i])
      refine lv_if_eq (tgt := 59) hx hb dX13_runLength_38 (by decide) (fun c_13 => ?_) (fun c_13 => absurd (by decide) c_13)
      refine lv_iconst (v := 0) hx hb dX13_runLength_59 (by decide) ?_
      have hcd : (cd false true true) = (cd false true true) := rfl
      have hP8 := hP.sub (ws' := [((b 0), .inr (15, [.int (cd false true true), .ref (b 1), .ref (b 2), .int 0, .ref (b 3), .ref (b 4), .ref (b 5), .null, .ref (b 6), .int 0, .int 0, .int 0, .int 0, .int 0]))]) [6] rfl
      rw [hcd] at hP8
      exact W.iret (v := 0) hx hb hr (fun t ht hW => ⟨⟨0, (), rfl, trivial, ⟨[.ref (b 1), .ref (b 2), .int 0, .ref (b 3), .ref (b 4), .ref (b 5), .null, .ref (b 6), .int 0, .int 0, .int 0, .int 0, .int 0], P_at ht hP8⟩⟩, hS.F ht⟩) hS.2.2 dX13_runLength_60
set_option maxHeartbeats 4000000 in
set_option maxRecDepth 100000 in
theorem c_X13_runAt (l : Launch) (dC : Nat → ClassId) (dI : Nat → Nat → Nat) (g : Nat → ClassId) (b : Nat → Nat) (r1 : Nat → Nat) (r2 : Nat → Nat) (x : Int32) (rn : Int32) (pl_ : Int32) (th : Int32) (sz : Nat) : Met l yX13_runAt wsX13_runAt ({ frames := 7, cells := 4, slots := 12, locals := 149 }) (va_Pc [.ref (b 0), .int x, .int rn, .int pl_] (PG (dC, dI) g (modW b r1 r2 g th) sz)) (va_Qi (fun (_ : Int32) (_ : Unit) => True) (fun (_ : Unit) t => ∃ fs : List Value, va_P (dC, dI) vwCl [(b 0, .inr (15, .int (cd false true true) :: fs))] t.heap) (va_A (modW b r1 r2 g th) sz)) 4 12 (va_A (modW b r1 r2 g th) sz) := by
  refine Met.ofW (cc := cX13_runAt) (maxL := 5) (ret := (some .int)) (by decide) rfl ?_
  intro p e s m args below meth c s₁ B hml hv
  obtain ⟨rfl, hsz, hP, hK, hD0, hG⟩ := hv
  have hx := B.exec
  have hb := B.bytes
  have hr := B.returns
  have hts := atoms_spec (ws := wsX13_runAt) B.pre
  have hown : s.vm.findClass RX13 = some m.cls := findClass_of_methodNamed B.named
  have hlocks := B.notSynchronized
  subst hsz
  have hD := hD0.self (sz := s.heap.size)
  generalize hAe : va_A (modW b r1 r2 g th) s.heap.size = A at hD hG ⊢
  have hA : ∀ q : Nat, s.heap.size ≤ q → A q := fun q h => by rw [← hAe]; exact Or.inr h
  have hS : va_S A s.heap s.heap [] := va_S.rf
  have hl := lv_entry ([.ref (b 0), .int x, .int rn, .int pl_]) (n := 5) (Nat.le_of_ble_eq_true rfl)
  rw [lg_entry_eq]
  generalize (lg_sl ([.ref (b 0), .int x, .int rn, .int pl_]) ++ List.replicate (5 - (lg_sl ([.ref (b 0), .int x, .int rn, .int pl_])).length) Slot.unset).toArray = ls at hl ⊢
  have hl : lv_has ls 5 [(0, .ref (b 0)), (1, .int x), (2, .int rn), (3, .int pl_)] := hl
  refine lv_iload_n hx hb dX13_runAt_0 rfl (lv_at hl 1 rfl) ?_
  refine va_calli (va_runS (As := [.int x]) (rest := []) ⟨hx, hb, hml, hown, hts⟩ (c_X13_isTape l dC dI g (modW b r1 r2 g th) x   s.heap.size) (va_cwS 1 hts gX13_runAt_X13_isTape rfl rfl rfl (by decide +kernel) ⟨Nat.le_of_ble_eq_true rfl, Nat.le_of_ble_eq_true rfl⟩) ⟨PG_blind, PG_call hK hG hS hP hD (A_all hD hA hS.1)⟩ rfl rfl hl.1 rfl (lv_room (Nat.le_of_ble_eq_true rfl)) dX13_runAt_1 ⟨Nat.le_of_ble_eq_true rfl, Nat.le_of_ble_eq_true rfl⟩) hS (fun q _ h => (A_all hD hA hS.1) q h) (A_all hD hA hS.1) (fun r_1 u_1 t_1 H_1 L_1 ht_1 hvm_1 hw_1 hB_1 hz_1 hk_1 hS => ?_)
  replace hB_1 := (show va_P (dC, dI) vwCl (modW b r1 r2 g th) t_1.heap from hB_1)
  rw [ht_1] at hB_1
  have hP := hB_1
  obtain rfl : r_1 = b2i (TOKb x) := hw_1
  refine lv_if_eq (tgt := 54) hx hb dX13_runAt_4 (by decide) (fun c_2 => ?_) (fun c_2 => ?_)
  · have hB_3 : (TOKb x) = false := b2i_0 c_2
    refine lv_iconst (v := 0) hx hb dX13_runAt_54 (by decide) ?_
    refine lv_istore (lv' := [(4, .int 0), (0, .ref (b 0)), (1, .int x), (2, .int rn), (3, .int pl_)]) hx hb dX13_runAt_55 hl (by decide) rfl (fun ls hl => ?_)
    refine lv_aload_n hx hb dX13_runAt_57 rfl (lv_at hl 1 rfl) ?_
    refine lv_iload hx hb dX13_runAt_58 (lv_at hl 0 rfl) ?_
    refine lv_iconst (v := 1) hx hb dX13_runAt_60 (by decide) ?_
    refine lv_iconst (v := 1) hx hb dX13_runAt_61 (by decide) ?_
    refine va_calli (va_runV (As := [.int 0, .int 1, .int 1]) (rest := []) ⟨hx, hb, hml, hown, hts⟩ (c_X13_passes l dC dI g b r1 r2 th false true true  H_1.size) (cwV 3 hts gX13_runAt_X13_passes rfl rfl rfl (by decide +kernel) ⟨Nat.le_of_ble_eq_true rfl, Nat.le_of_ble_eq_true rfl⟩) ⟨PG_blind, va_recv hK hP (ci := 15) (q0 := 0) rfl (m_0 b r1 r2 g th), PG_call hK hG hS hP hD (A_all hD hA hS.1)⟩ rfl rfl hl.1 rfl (lv_room (Nat.le_of_ble_eq_true rfl)) dX13_runAt_62 ⟨Nat.le_of_ble_eq_true rfl, Nat.le_of_ble_eq_true rfl⟩) hS (fun q _ h => (A_all hD hA hS.1) q h) (A_all hD hA hS.1) (fun r_4 u_4 t_4 H_4 L_4 ht_4 hvm_4 hw_4 hB_4 hz_4 hk_4 hS => ?_)
    rw [ht_4] at hB_4
    have hP : va_P (dC, dI) vwCl (modW b r1 r2 g (cd false true true)) H_4 := hB_4
    have hD : va_D A (modW b r1 r2 g (cd false true true)) := va_D_th hD
    obtain rfl : r_4 = 0 := hw_4.trans (by simp [b2i])
    refine lv_if_eq (tgt := 87) hx hb dX13_runAt_65 (by decide) (fun c_5 => ?_) (fun c_5 => absurd (by decide) c_5)
    refine lv_iconst (v := 0) hx hb dX13_runAt_87 (by decide) ?_
    refine W.widen (k := 4) (n := 12) (by omega) (by omega) ?_
    have hcd : (cd false true true) = (cd false true true) := rfl
    have hP8 := hP.sub (ws' := [((b 0), .inr (15, [.int (cd false true true), .ref (b 1), .ref (b 2), .int 0, .ref (b 3), .ref (b 4), .ref (b 5), .null, .ref (b 6), .int 0, .int 0, .int 0, .int 0, .int 0]))]) [0] rfl
    rw [hcd] at hP8
    exact W.iret (v := 0) hx hb hr (fun t ht hW => ⟨⟨0, (), rfl, trivial, ⟨[.ref (b 1), .ref (b 2), .int 0, .ref (b 3), .ref (b 4), .ref (b 5), .null, .ref (b 6), .int 0, .int 0, .int 0, .int 0, .int 0], P_at ht hP8⟩⟩, hS.F ht⟩) hS.2.2 dX13_runAt_88
  · have hB_3 : (TOKb x) = true := b2i_1 c_2
    obtain ⟨jx, hjx, rfl⟩ := TOK_ex hB_3
    refine lv_iload_n hx hb dX13_runAt_7 rfl (lv_at hl 2 rfl) ?_
    refine lv_if_lt (tgt := 54) hx hb dX13_runAt_8 (by decide) (fun c_6 => ?_) (fun c_6 => ?_)
    · refine lv_iconst (v := 0) hx hb dX13_runAt_54 (by decide) ?_
      refine lv_istore (lv' := [(4, .int 0), (0, .ref (b 0)), (1, .int (nI jx)), (2, .int rn), (3, .int pl_)]) hx hb dX13_runAt_55 hl (by decide) rfl (fun ls hl => ?_)
      refine lv_aload_n hx hb dX13_runAt_57 rfl (lv_at hl 1 rfl) ?_
      refine lv_iload hx hb dX13_runAt_58 (lv_at hl 0 rfl) ?_
      refine lv_iconst (v := 1) hx hb dX13_runAt_60 (by decide) ?_
      refine lv_iconst (v := 1) hx hb dX13_runAt_61 (by decide) ?_
      refine va_calli (va_runV (As := [.int 0, .int 1, .int 1]) (rest := []) ⟨hx, hb, hml, hown, hts⟩ (c_X13_passes l dC dI g b r1 r2 th false true true  H_1.size) (cwV 3 hts gX13_runAt_X13_passes rfl rfl rfl (by decide +kernel) ⟨Nat.le_of_ble_eq_true rfl, Nat.le_of_ble_eq_true rfl⟩) ⟨PG_blind, va_recv hK hP (ci := 15) (q0 := 0) rfl (m_0 b r1 r2 g th), PG_call hK hG hS hP hD (A_all hD hA hS.1)⟩ rfl rfl hl.1 rfl (lv_room (Nat.le_of_ble_eq_true rfl)) dX13_runAt_62 ⟨Nat.le_of_ble_eq_true rfl, Nat.le_of_ble_eq_true rfl⟩) hS (fun q _ h => (A_all hD hA hS.1) q h) (A_all hD hA hS.1) (fun r_7 u_7 t_7 H_7 L_7 ht_7 hvm_7 hw_7 hB_7 hz_7 hk_7 hS => ?_)
      rw [ht_7] at hB_7
      have hP : va_P (dC, dI) vwCl (modW b r1 r2 g (cd false true true)) H_7 := hB_7
      have hD : va_D A (modW b r1 r2 g (cd false true true)) := va_D_th hD
      obtain rfl : r_7 = 0 := hw_7.trans (by simp [b2i])
      refine lv_if_eq (tgt := 87) hx hb dX13_runAt_65 (by decide) (fun c_8 => ?_) (fun c_8 => absurd (by decide) c_8)
      refine lv_iconst (v := 0) hx hb dX13_runAt_87 (by decide) ?_
      refine W.widen (k := 4) (n := 12) (by omega) (by omega) ?_
      have hcd : (cd false true true) = (cd false true true) := rfl
      have hP8 := hP.sub (ws' := [((b 0), .inr (15, [.int (cd false true true), .ref (b 1), .ref (b 2), .int 0, .ref (b 3), .ref (b 4), .ref (b 5), .null, .ref (b 6), .int 0, .int 0, .int 0, .int 0, .int 0]))]) [0] rfl
      rw [hcd] at hP8
      exact W.iret (v := 0) hx hb hr (fun t ht hW => ⟨⟨0, (), rfl, trivial, ⟨[.ref (b 1), .ref (b 2), .int 0, .ref (b 3), .ref (b 4), .ref (b 5), .null, .ref (b 6), .int 0, .int 0, .int 0, .int 0, .int 0], P_at ht hP8⟩⟩, hS.F ht⟩) hS.2.2 dX13_runAt_88
    · refine lv_iload_n hx hb dX13_runAt_11 rfl (lv_at hl 2 rfl) ?_
      obtain ⟨hP, hD⟩ := mod_x b r1 r2 g th jx hjx hP hD
      have hP : va_P (dC, dI) vwCl [((b 0), .inr (15, [.int th, .ref (b 1), .ref (b 2), .int 0, .ref (b 3), .ref (b 4), .ref (b 5), .null, .ref (b 6), .int 0, .int 0, .int 0, .int 0, .int 0])), ((b 3), .inl (g 4, 8, .inr (.inr (.inr (.inr (fun i => if i < 8 then some (r1 i) else none)))))), ((r1 jx), .inl (g 0, 0, .inl (fun _ => 0))), ((b 1), .inl (g 0, 200, .inl (fun _ => 0))), ((b 2), .inl (g 0, 200, .inl (fun _ => 0))), ((b 5), .inl (g 0, 5, .inl stf))] H_1 := hP
      have hD : va_D A [((b 0), .inr (15, [.int th, .ref (b 1), .ref (b 2), .int 0, .ref (b 3), .ref (b 4), .ref (b 5), .null, .ref (b 6), .int 0, .int 0, .int 0, .int 0, .int 0])), ((b 3), .inl (g 4, 8, .inr (.inr (.inr (.inr (fun i => if i < 8 then some (r1 i) else none)))))), ((r1 jx), .inl (g 0, 0, .inl (fun _ => 0))), ((b 1), .inl (g 0, 200, .inl (fun _ => 0))), ((b 2), .inl (g 0, 200, .inl (fun _ => 0))), ((b 5), .inl (g 0, 5, .inl stf))] := hD
      refine lv_aload_n hx hb dX13_runAt_12 rfl (lv_at hl 0 rfl) ?_
      refine lv_iload_n hx hb dX13_runAt_13 rfl (lv_at hl 1 rfl) ?_
      have hPc := hP.sub (ws' := [((b 0), .inr (15, [.int th, .ref (b 1), .ref (b 2), .int 0, .ref (b 3), .ref (b 4), .ref (b 5), .null, .ref (b 6), .int 0, .int 0, .int 0, .int 0, .int 0])), ((b 3), .inl (g 4, 8, .inr (.inr (.inr (.inr (fun i => if i < 8 then some (r1 i) else none)))))), ((r1 jx), .inl (g 0, 0, .inl (fun _ => 0))), ((b 1), .inl (g 0, 200, .inl (fun _ => 0))), ((b 2), .inl (g 0, 200, .inl (fun _ => 0))), ((b 5), .inl (g 0, 5, .inl stf))]) [0, 1, 2, 3, 4, 5] rfl
      have hDc := hD.sub (ws' := [((b 0), .inr (15, [.int th, .ref (b 1), .ref (b 2), .int 0, .ref (b 3), .ref (b 4), .ref (b 5), .null, .ref (b 6), .int 0, .int 0, .int 0, .int 0, .int 0])), ((b 3), .inl (g 4, 8, .inr (.inr (.inr (.inr (fun i => if i < 8 then some (r1 i) else none)))))), ((r1 jx), .inl (g 0, 0, .inl (fun _ => 0))), ((b 1), .inl (g 0, 200, .inl (fun _ => 0))), ((b 2), .inl (g 0, 200, .inl (fun _ => 0))), ((b 5), .inl (g 0, 5, .inl stf))]) [0, 1, 2, 3, 4, 5] (by decide) rfl
      have hFc := va_free (wc := [((b 0), .inr (15, [.int th, .ref (b 1), .ref (b 2), .int 0, .ref (b 3), .ref (b 4), .ref (b 5), .null, .ref (b 6), .int 0, .int 0, .int 0, .int 0, .int 0])), ((b 3), .inl (g 4, 8, .inr (.inr (.inr (.inr (fun i => if i < 8 then some (r1 i) else none)))))), ((r1 jx), .inl (g 0, 0, .inl (fun _ => 0))), ((b 1), .inl (g 0, 200, .inl (fun _ => 0))), ((b 2), .inl (g 0, 200, .inl (fun _ => 0))), ((b 5), .inl (g 0, 5, .inl stf))]) hD hS hA [0, 1, 2, 3, 4, 5] rfl
      refine va_callq (va_runV (As := [.int (nI jx)]) (rest := [.int rn]) ⟨hx, hb, hml, hown, hts⟩ (c_X13_runsNow l dC dI g b r1 r2 jx th hjx H_1.size) (cwV 1 hts gX13_runAt_X13_runsNow rfl rfl rfl (by decide +kernel) ⟨Nat.le_of_ble_eq_true rfl, Nat.le_of_ble_eq_true rfl⟩) ⟨PG_blind, va_recv hK hP (ci := 15) (q0 := 0) rfl rfl, PG_call hK hG hS hPc hDc hFc⟩ rfl rfl hl.1 rfl (lv_room (Nat.le_of_ble_eq_true rfl)) dX13_runAt_14 ⟨Nat.le_of_ble_eq_true rfl, Nat.le_of_ble_eq_true rfl⟩) hS (fun q _ h => hFc q h) hFc (fun r_9 u_9 t_9 H_9 L_9 ht_9 hvm_9 hw_9 hB_9 hz_9 hk_9 hS => ?_)
      obtain ⟨hP1, hD1⟩ := hB_9
      rw [ht_9] at hP1
      obtain ⟨hP, hD⟩ := va_join (wr := []) (w1 := [((b 0), .inr (15, [.int th, .ref (b 1), .ref (b 2), .int 0, .ref (b 3), .ref (b 4), .ref (b 5), .null, .ref (b 6), .int 0, .int 0, .int 0, .int 0, .int 0])), ((b 3), .inl (g 4, 8, .inr (.inr (.inr (.inr (fun i => if i < 8 then some (r1 i) else none)))))), ((r1 jx), .inl (g 0, 0, .inl (fun _ => 0))), ((b 1), .inl (g 0, 200, .inl (fun _ => 0))), ((b 2), .inl (g 0, 200, .inl (fun _ => 0))), ((b 5), .inl (g 0, 5, .inl stf)), ((u_9 0), .inr (1, [.int 0, .ref (g 10), .int 0]))]) hP hD [0, 1, 2, 3, 4, 5] [] rfl rfl (by decide) (by decide) hk_9 hFc hP1 hD1
      have hP : va_P (dC, dI) vwCl [((b 0), .inr (15, [.int th, .ref (b 1), .ref (b 2), .int 0, .ref (b 3), .ref (b 4), .ref (b 5), .null, .ref (b 6), .int 0, .int 0, .int 0, .int 0, .int 0])), ((b 3), .inl (g 4, 8, .inr (.inr (.inr (.inr (fun i => if i < 8 then some (r1 i) else none)))))), ((r1 jx), .inl (g 0, 0, .inl (fun _ => 0))), ((b 1), .inl (g 0, 200, .inl (fun _ => 0))), ((b 2), .inl (g 0, 200, .inl (fun _ => 0))), ((b 5), .inl (g 0, 5, .inl stf)), ((u_9 0), .inr (1, [.int 0, .ref (g 10), .int 0]))] H_9 := hP
      have hD : va_D A [((b 0), .inr (15, [.int th, .ref (b 1), .ref (b 2), .int 0, .ref (b 3), .ref (b 4), .ref (b 5), .null, .ref (b 6), .int 0, .int 0, .int 0, .int 0, .int 0])), ((b 3), .inl (g 4, 8, .inr (.inr (.inr (.inr (fun i => if i < 8 then some (r1 i) else none)))))), ((r1 jx), .inl (g 0, 0, .inl (fun _ => 0))), ((b 1), .inl (g 0, 200, .inl (fun _ => 0))), ((b 2), .inl (g 0, 200, .inl (fun _ => 0))), ((b 5), .inl (g 0, 5, .inl stf)), ((u_9 0), .inr (1, [.int 0, .ref (g 10), .int 0]))] := hD
      refine W.widen (k := 4) (n := 12) (by omega) (by omega) ?_
      obtain rfl : r_9 = some (u_9 0) := hw_9
      refine W.eq (g2 := F0 m 17 ls [.ref (u_9 0), .int rn]) rfl ?_
      refine va_callFi (va_runF (As := []) (rest := [.int rn]) (hK.1 1 _ rfl).2 ⟨hx, hb, hml, hown, hts⟩ (c_Jx4a65c_size_8abf5 l dC dI g [((b 0), .inr (15, [.int th, .ref (b 1), .ref (b 2), .int 0, .ref (b 3), .ref (b 4), .ref (b 5), .null, .ref (b 6), .int 0, .int 0, .int 0, .int 0, .int 0])), ((b 3), .inl (g 4, 8, .inr (.inr (.inr (.inr (fun i => if i < 8 then some (r1 i) else none)))))), ((r1 jx), .inl (g 0, 0, .inl (fun _ => 0))), ((b 1), .inl (g 0, 200, .inl (fun _ => 0))), ((b 2), .inl (g 0, 200, .inl (fun _ => 0))), ((b 5), .inl (g 0, 5, .inl stf)), ((u_9 0), .inr (1, [.int 0, .ref (g 10), .int 0]))] (u_9 0) 0 0 (some (g 10)) 6 rfl  H_9.size) (va_cwF 0 hts gX13_runAt_Jx4a65c_size_8abf5_f79Jx4a65c rfl rfl rfl (fw_1 hG) (by decide +kernel) ⟨Nat.le_of_ble_eq_true rfl, Nat.le_of_ble_eq_true rfl⟩) ⟨PG_blind, va_recv hK hP (ci := 1) (q0 := 6) rfl rfl, PG_call hK hG hS hP hD (A_all hD hA hS.1)⟩ rfl rfl hl.1 rfl (lv_room (Nat.le_of_ble_eq_true rfl)) dX13_runAt_17 ⟨Nat.le_of_ble_eq_true rfl, Nat.le_of_ble_eq_true rfl⟩) hS (fun q _ h => (A_all hD hA hS.1) q h) (A_all hD hA hS.1) (fun r_10 u_10 t_10 H_10 L_10 ht_10 hvm_10 hw_10 hB_10 hz_10 hk_10 hS => ?_)
      replace hB_10 := (show va_P (dC, dI) vwCl [((b 0), .inr (15, [.int th, .ref (b 1), .ref (b 2), .int 0, .ref (b 3), .ref (b 4), .ref (b 5), .null, .ref (b 6), .int 0, .int 0, .int 0, .int 0, .int 0])), ((b 3), .inl (g 4, 8, .inr (.inr (.inr (.inr (fun i => if i < 8 then some (r1 i) else none)))))), ((r1 jx), .inl (g 0, 0, .inl (fun _ => 0))), ((b 1), .inl (g 0, 200, .inl (fun _ => 0))), ((b 2), .inl (g 0, 200, .inl (fun _ => 0))), ((b 5), .inl (g 0, 5, .inl stf)), ((u_9 0), .inr (1, [.int 0, .ref (g 10), .int 0]))] t_10.heap from hB_10)
      rw [ht_10] at hB_10
      have hP := hB_10
      obtain rfl : r_10 = 0 := hw_10
      refine lv_icmp_ge (tgt := 54) hx hb dX13_runAt_22 (by decide) (fun c_11 => ?_) (fun c_11 => absurd (i_nlt.mp c_6) c_11)
      refine lv_iconst (v := 0) hx hb dX13_runAt_54 (by decide) ?_
      refine lv_istore (lv' := [(4, .int 0), (0, .ref (b 0)), (1, .int (nI jx)), (2, .int rn), (3, .int pl_)]) hx hb dX13_runAt_55 hl (by decide) rfl (fun ls hl => ?_)
      refine lv_aload_n hx hb dX13_runAt_57 rfl (lv_at hl 1 rfl) ?_
      refine lv_iload hx hb dX13_runAt_58 (lv_at hl 0 rfl) ?_
      refine lv_iconst (v := 1) hx hb dX13_runAt_60 (by decide) ?_
      refine lv_iconst (v := 1) hx hb dX13_runAt_61 (by decide) ?_
      have hPc := hP.sub (ws' := [((b 0), .inr (15, [.int th, .ref (b 1), .ref (b 2), .int 0, .ref (b 3), .ref (b 4), .ref (b 5), .null, .ref (b 6), .int 0, .int 0, .int 0, .int 0, .int 0]))]) [0] rfl
      have hDc := hD.sub (ws' := [((b 0), .inr (15, [.int th, .ref (b 1), .ref (b 2), .int 0, .ref (b 3), .ref (b 4), .ref (b 5), .null, .ref (b 6), .int 0, .int 0, .int 0, .int 0, .int 0]))]) [0] (by decide) rfl
      have hFc := va_free (wc := [((b 0), .inr (15, [.int th, .ref (b 1), .ref (b 2), .int 0, .ref (b 3), .ref (b 4), .ref (b 5), .null, .ref (b 6), .int 0, .int 0, .int 0, .int 0, .int 0]))]) hD hS hA [0] rfl
      refine va_calli (va_runV (As := [.int 0, .int 1, .int 1]) (rest := []) ⟨hx, hb, hml, hown, hts⟩ (c_X13_passes_x l dC dI g b r1 r2 th false true true  H_10.size) (cwV 3 hts gX13_runAt_X13_passes rfl rfl rfl (by decide +kernel) ⟨Nat.le_of_ble_eq_true rfl, Nat.le_of_ble_eq_true rfl⟩) ⟨PG_blind, va_recv hK hP (ci := 15) (q0 := 0) rfl rfl, PG_call hK hG hS hPc hDc hFc⟩ rfl rfl hl.1 rfl (lv_room (Nat.le_of_ble_eq_true rfl)) dX13_runAt_62 ⟨Nat.le_of_ble_eq_true rfl, Nat.le_of_ble_eq_true rfl⟩) hS (fun q _ h => hFc q h) hFc (fun r_12 u_12 t_12 H_12 L_12 ht_12 hvm_12 hw_12 hB_12 hz_12 hk_12 hS => ?_)
      obtain ⟨hP1, hD1⟩ := hB_12
      rw [ht_12] at hP1
      obtain ⟨hP, hD⟩ := va_join (wr := [((b 3), .inl (g 4, 8, .inr (.inr (.inr (.inr (fun i => if i < 8 then some (r1 i) else none)))))), ((r1 jx), .inl (g 0, 0, .inl (fun _ => 0))), ((b 1), .inl (g 0, 200, .inl (fun _ => 0))), ((b 2), .inl (g 0, 200, .inl (fun _ => 0))), ((b 5), .inl (g 0, 5, .inl stf)), ((u_9 0), .inr (1, [.int 0, .ref (g 10), .int 0]))]) (w1 := [((b 0), .inr (15, [.int (cd false true true), .ref (b 1), .ref (b 2), .int 0, .ref (b 3), .ref (b 4), .ref (b 5), .null, .ref (b 6), .int 0, .int 0, .int 0, .int 0, .int 0]))]) hP hD [0] [1, 2, 3, 4, 5, 6] rfl rfl (by decide) (by decide) hk_12 hFc hP1 hD1
      have hP : va_P (dC, dI) vwCl [((b 3), .inl (g 4, 8, .inr (.inr (.inr (.inr (fun i => if i < 8 then some (r1 i) else none)))))), ((r1 jx), .inl (g 0, 0, .inl (fun _ => 0))), ((b 1), .inl (g 0, 200, .inl (fun _ => 0))), ((b 2), .inl (g 0, 200, .inl (fun _ => 0))), ((b 5), .inl (g 0, 5, .inl stf)), ((u_9 0), .inr (1, [.int 0, .ref (g 10), .int 0])), ((b 0), .inr (15, [.int (cd false true true), .ref (b 1), .ref (b 2), .int 0, .ref (b 3), .ref (b 4), .ref (b 5), .null, .ref (b 6), .int 0, .int 0, .int 0, .int 0, .int 0]))] H_12 := hP
      have hD : va_D A [((b 3), .inl (g 4, 8, .inr (.inr (.inr (.inr (fun i => if i < 8 then some (r1 i) else none)))))), ((r1 jx), .inl (g 0, 0, .inl (fun _ => 0))), ((b 1), .inl (g 0, 200, .inl (fun _ => 0))), ((b 2), .inl (g 0, 200, .inl (fun _ => 0))), ((b 5), .inl (g 0, 5, .inl stf)), ((u_9 0), .inr (1, [.int 0, .ref (g 10), .int 0])), ((b 0), .inr (15, [.int (cd false true true), .ref (b 1), .ref (b 2), .int 0, .ref (b 3), .ref (b 4), .ref (b 5), .null, .ref (b 6), .int 0, .int 0, .int 0, .int 0, .int 0]))] := hD
      obtain rfl : r_12 = 0 := hw_12.trans (by simp [b2i])
      refine lv_if_eq (tgt := 87) hx hb dX13_runAt_65 (by decide) (fun c_13 => ?_) (fun c_13 => absurd (by decide) c_13)
      refine lv_iconst (v := 0) hx hb dX13_runAt_87 (by decide) ?_
      have hcd : (cd false true true) = (cd false true true) := rfl
      have hP8 := hP.sub (ws' := [((b 0), .inr (15, [.int (cd false true true), .ref (b 1), .ref (b 2), .int 0, .ref (b 3), .ref (b 4), .ref (b 5), .null, .ref (b 6), .int 0, .int 0, .int 0, .int 0, .int 0]))]) [6] rfl
      rw [hcd] at hP8
      exact W.iret (v := 0) hx hb hr (fun t ht hW => ⟨⟨0, (), rfl, trivial, ⟨[.ref (b 1), .ref (b 2), .int 0, .ref (b 3), .ref (b 4), .ref (b 5), .null, .ref (b 6), .int 0, .int 0, .int 0, .int 0, .int 0], P_at ht hP8⟩⟩, hS.F ht⟩) hS.2.2 dX13_runAt_88
