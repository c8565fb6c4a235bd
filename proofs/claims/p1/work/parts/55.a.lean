theorem dL_law_2396 : decode cL_law 2396 = .ok (.aload_n 1, 1) := by decide +kernel
theorem dL_law_2397 : decode cL_law 2397 = .ok (.aload_n 0, 1) := by decide +kernel
theorem dL_law_2398 : decode cL_law 2398 = .ok (.iload 5, 2) := by decide +kernel
theorem dL_law_2400 : decode cL_law 2400 = .ok (.iconst 1, 1) := by decide +kernel
theorem dL_law_2401 : decode cL_law 2401 = .ok (.iadd, 1) := by decide +kernel
theorem dL_law_2402 : decode cL_law 2402 = .ok (.iaload, 1) := by decide +kernel
theorem dL_law_2403 : decode cL_law 2403 = .ok (.i2l, 1) := by decide +kernel
theorem dL_law_2404 : decode cL_law 2404 = .ok (.bipush 32, 2) := by decide +kernel
theorem dL_law_2406 : decode cL_law 2406 = .ok (.lshl, 1) := by decide +kernel
theorem dL_law_2407 : decode cL_law 2407 = .ok (.aload_n 0, 1) := by decide +kernel
theorem dL_law_2408 : decode cL_law 2408 = .ok (.iload 5, 2) := by decide +kernel
theorem dL_law_2410 : decode cL_law 2410 = .ok (.iconst 2, 1) := by decide +kernel
theorem dL_law_2411 : decode cL_law 2411 = .ok (.iadd, 1) := by decide +kernel
theorem dL_law_2412 : decode cL_law 2412 = .ok (.iaload, 1) := by decide +kernel
theorem dL_law_2413 : decode cL_law 2413 = .ok (.i2l, 1) := by decide +kernel
theorem dL_law_2414 : decode cL_law 2414 = .ok (.ldc2_w 252, 3) := by decide +kernel
theorem dL_law_2417 : decode cL_law 2417 = .ok (.land, 1) := by decide +kernel
theorem dL_law_2418 : decode cL_law 2418 = .ok (.lor, 1) := by decide +kernel
theorem dL_law_2419 : decode cL_law 2419 = .ok (.aload_n 3, 1) := by decide +kernel
set_option maxRecDepth 200000 in
theorem ggL_law_L_type : GoodIn wsL_law wsL_type := goodIn_ca (goodIn_r _ [1181, 983, 1182, 1183, 1184, 2, 1185, 212, 213, 49, 1186, 1187, 1188, 1189, 1190, 1191, 1192, 138, 1193, 157, 156, 1538, 1539, 1540, 1541, 1542, 1543, 1544, 1545, 1546, 1547, 1548, 1549, 1550, 1606, 1607, 1608, 1609, 1610, 1611, 1612, 1613, 1614, 1615, 1616, 1617, 1618, 1633, 1634] rfl (by decide +kernel)) (goodIn_sub (fun _ h => List.mem_append_left _ (List.mem_append_right _ h)) (by decide +kernel))
set_option maxRecDepth 20000 in
theorem gL_law_L_type : GoodIn wsL_law (va_wsS RL 254 yL_type wsL_type) := goodIn_app (goodIn_of _ (by decide +kernel)) ggL_law_L_type
theorem dL_law_2420 : decode cL_law 2420 = .ok (.invokestatic 254, 3) := by decide +kernel
theorem dL_law_2423 : decode cL_law 2423 = .ok (.istore 6, 2) := by decide +kernel
theorem dL_law_2425 : decode cL_law 2425 = .ok (.aload_n 2, 1) := by decide +kernel
theorem dL_law_2426 : decode cL_law 2426 = .ok (.aload_n 0, 1) := by decide +kernel
theorem dL_law_2427 : decode cL_law 2427 = .ok (.iload 5, 2) := by decide +kernel
theorem dL_law_2429 : decode cL_law 2429 = .ok (.iconst 1, 1) := by decide +kernel
theorem dL_law_2430 : decode cL_law 2430 = .ok (.iadd, 1) := by decide +kernel
theorem dL_law_2431 : decode cL_law 2431 = .ok (.iaload, 1) := by decide +kernel
theorem dL_law_2432 : decode cL_law 2432 = .ok (.i2l, 1) := by decide +kernel
theorem dL_law_2433 : decode cL_law 2433 = .ok (.bipush 32, 2) := by decide +kernel
theorem dL_law_2435 : decode cL_law 2435 = .ok (.lshl, 1) := by decide +kernel
theorem dL_law_2436 : decode cL_law 2436 = .ok (.aload_n 0, 1) := by decide +kernel
theorem dL_law_2437 : decode cL_law 2437 = .ok (.iload 5, 2) := by decide +kernel
theorem dL_law_2439 : decode cL_law 2439 = .ok (.iconst 2, 1) := by decide +kernel
theorem dL_law_2440 : decode cL_law 2440 = .ok (.iadd, 1) := by decide +kernel
theorem dL_law_2441 : decode cL_law 2441 = .ok (.iaload, 1) := by decide +kernel
theorem dL_law_2442 : decode cL_law 2442 = .ok (.i2l, 1) := by decide +kernel
theorem dL_law_2443 : decode cL_law 2443 = .ok (.ldc2_w 252, 3) := by decide +kernel
theorem dL_law_2446 : decode cL_law 2446 = .ok (.land, 1) := by decide +kernel
theorem dL_law_2447 : decode cL_law 2447 = .ok (.lor, 1) := by decide +kernel
set_option maxRecDepth 200000 in
theorem ggL_law_X13_type : GoodIn wsL_law wsX13_type := goodIn_r _ [1197, 1198, 1199, 185, 239, 240, 241, 5, 242, 243, 1551, 1552, 1553, 1554, 1555, 1556, 1557, 1558, 1559, 1560, 1561, 1562, 1563, 1564] rfl (by decide +kernel)
set_option maxRecDepth 20000 in
theorem gL_law_X13_type : GoodIn wsL_law (wsV RL 257 RX13 yX13_type wsX13_type) := goodIn_app (goodIn_of _ (by decide +kernel)) ggL_law_X13_type
theorem dL_law_2448 : decode cL_law 2448 = .ok (.invokevirtual 257, 3) := by decide +kernel
theorem dL_law_2451 : decode cL_law 2451 = .ok (.istore 7, 2) := by decide +kernel
theorem dL_law_2453 : decode cL_law 2453 = .ok (.aload_n 2, 1) := by decide +kernel
theorem dL_law_2454 : decode cL_law 2454 = .ok (.invokevirtual 147, 3) := by decide +kernel
theorem dL_law_2457 : decode cL_law 2457 = .ok (.iload 6, 2) := by decide +kernel
theorem dL_law_2459 : decode cL_law 2459 = .ok (.if_icmp .eq 5, 3) := by decide +kernel
theorem dL_law_2464 : decode cL_law 2464 = .ok (.iload 6, 2) := by decide +kernel
theorem dL_law_2466 : decode cL_law 2466 = .ok (.ifCond .ne 15, 3) := by decide +kernel
theorem dL_law_2481 : decode cL_law 2481 = .ok (.goto 331, 3) := by decide +kernel
theorem dL_law_2469 : decode cL_law 2469 = .ok (.aload_n 3, 1) := by decide +kernel
theorem dL_law_2470 : decode cL_law 2470 = .ok (.iconst 0, 1) := by decide +kernel
theorem dL_law_2471 : decode cL_law 2471 = .ok (.laload, 1) := by decide +kernel
theorem dL_law_2472 : decode cL_law 2472 = .ok (.iload 7, 2) := by decide +kernel
theorem dL_law_2474 : decode cL_law 2474 = .ok (.i2l, 1) := by decide +kernel
theorem dL_law_2475 : decode cL_law 2475 = .ok (.lcmp, 1) := by decide +kernel
theorem dL_law_2476 : decode cL_law 2476 = .ok (.ifCond .eq 5, 3) := by decide +kernel
theorem dL_law_2484 : decode cL_law 2484 = .ok (.aload_n 1, 1) := by decide +kernel
set_option maxRecDepth 200000 in
theorem ggL_law_X11_clearText : GoodIn wsL_law wsX11_clearText := goodIn_r _ [1203, 49, 1204, 1205, 1206, 138, 1207, 157, 1538, 1539, 1540, 1541, 1542, 1543, 1544, 1545, 1546, 1547, 1548, 1549, 1550, 1606, 1607, 1608, 1609, 1610, 1611, 1612, 1613, 1614, 1615, 1616, 1617, 1618, 1633, 1634] rfl (by decide +kernel)
set_option maxRecDepth 20000 in
theorem gL_law_X11_clearText : GoodIn wsL_law (wsV RL 258 RX11 yX11_clearText wsX11_clearText) := goodIn_app (goodIn_of _ (by decide +kernel)) ggL_law_X11_clearText
theorem dL_law_2485 : decode cL_law 2485 = .ok (.invokevirtual 258, 3) := by decide +kernel
theorem dL_law_2488 : decode cL_law 2488 = .ok (.aload_n 2, 1) := by decide +kernel
set_option maxRecDepth 200000 in
theorem ggL_law_X13_clearText : GoodIn wsL_law wsX13_clearText := goodIn_r _ [1211, 243, 1199, 1551, 1552, 1553, 1554, 1555, 1556, 1557, 1558, 1559, 1560, 1561, 1562, 1563, 1564] rfl (by decide +kernel)
set_option maxRecDepth 20000 in
theorem gL_law_X13_clearText : GoodIn wsL_law (wsV RL 261 RX13 yX13_clearText wsX13_clearText) := goodIn_app (goodIn_of _ (by decide +kernel)) ggL_law_X13_clearText
theorem dL_law_2489 : decode cL_law 2489 = .ok (.invokevirtual 261, 3) := by decide +kernel
theorem dL_law_2492 : decode cL_law 2492 = .ok (.if_icmp .eq 320, 3) := by decide +kernel
theorem dL_law_2497 : decode cL_law 2497 = .ok (.aload_n 1, 1) := by decide +kernel
set_option maxRecDepth 200000 in
theorem ggL_law_X11_textLength : GoodIn wsL_law wsX11_textLength := goodIn_r _ [1215, 49, 1538, 1539, 1540, 1541, 1542, 1543, 1544, 1545, 1546, 1547, 1548, 1549, 1550, 1606, 1607, 1608, 1609, 1610, 1611, 1612, 1613, 1614, 1615, 1616, 1617, 1618, 1633, 1634] rfl (by decide +kernel)
set_option maxRecDepth 20000 in
theorem gL_law_X11_textLength : GoodIn wsL_law (wsV RL 262 RX11 yX11_textLength wsX11_textLength) := goodIn_app (goodIn_of _ (by decide +kernel)) ggL_law_X11_textLength
theorem dL_law_2498 : decode cL_law 2498 = .ok (.invokevirtual 262, 3) := by decide +kernel
theorem dL_law_2501 : decode cL_law 2501 = .ok (.aload_n 2, 1) := by decide +kernel
set_option maxRecDepth 200000 in
theorem ggL_law_X13_textLength : GoodIn wsL_law wsX13_textLength := goodIn_r _ [1219, 243, 1199, 1551, 1552, 1553, 1554, 1555, 1556, 1557, 1558, 1559, 1560, 1561, 1562, 1563, 1564] rfl (by decide +kernel)
set_option maxRecDepth 20000 in
theorem gL_law_X13_textLength : GoodIn wsL_law (wsV RL 265 RX13 yX13_textLength wsX13_textLength) := goodIn_app (goodIn_of _ (by decide +kernel)) ggL_law_X13_textLength
theorem dL_law_2502 : decode cL_law 2502 = .ok (.invokevirtual 265, 3) := by decide +kernel
theorem dL_law_2505 : decode cL_law 2505 = .ok (.if_icmp .eq 307, 3) := by decide +kernel
set_option maxHeartbeats 4000000 in
set_option maxRecDepth 100000 in
theorem law_33 {l : Launch} {p : Program} {e : Env} {s : State} {m : MethodId} {below : List Frame} {meth : Method} {c : Code} {bs : Nat} {xs : Nat → Int32} {A : Nat → Prop} {dC : Nat → ClassId} {dI : Nat → Nat → Nat} {g : Nat → ClassId} {a b r1 r2 : Nat → Nat} {ou od : Nat} {Q : State → Prop} {H : Heap} {locs : List Loc} {ls : Array Slot} (C9 : LC l p s m c bs xs A dC dI g a b r1 r2 ou od) (hP : va_P (dC, dI) vwCl (lawL a g ou ++ lawR b r1 r2 g od) H) (hS : va_S A s.heap H locs) (hl : lv_has ls 10 [(5, .int 0), (0, .ref bs), (1, .ref (a 0)), (2, .ref (b 0)), (3, .ref ou), (4, .ref od)]) (hend : ∀ (H : Heap) (locs : List Loc), va_S A s.heap H locs → ∀ (ls : Array Slot), lv_has ls 10 [(5, .int 0), (0, .ref bs)] → W p l e room_1 s m #[Value.ref bs] below meth c H locs 6000 90000 Q (F0 m 2812 ls [])) : W p l e room_1 s m #[Value.ref bs] below meth c H locs 2000 30000 Q (F0 m 2396 ls []) := by
  obtain ⟨hlf, hx, hb, hml, hown, hts, hX, hbl, hbA, hK, hG, hA, hDD⟩ := C9
  have hk252 := hts (Jvm.Cond.constantLong RL 252 4294967295) (by decide +kernel)
  refine lv_aload_n hx hb dL_law_2396 rfl (lv_at hl 2 rfl) ?_
  refine lv_aload_n hx hb dL_law_2397 rfl (lv_at hl 1 rfl) ?_
  refine lv_iload hx hb dL_law_2398 (lv_at hl 0 rfl) ?_
  refine lv_iconst (v := 1) hx hb dL_law_2400 (by decide) ?_
  refine lv_iadd hx hb dL_law_2401 ?_
  refine lv_topi (fun x_1 ex_1 => ?_)
  obtain rfl : x_1 = 1 := ex_1.trans (by decide)
  refine va_sld hx hb hX hbl hbA hS (by unfold vp_in; decide) dL_law_2402 ?_
  refine W.eq (g2 := F0 m 2403 ls [.int (xs 1), .ref (a 0)]) rfl ?_
  refine lv_i2l (v := (xs 1).toInt64) hx hb dL_law_2403 rfl ?_
  refine lv_bipush (v := 32) hx hb dL_law_2404 (by decide) ?_
  refine lv_lshl (v := (((xs 1).toInt64) <<< ((32 : Int32).toInt64 &&& 63))) hx hb dL_law_2406 rfl ?_
  refine lv_aload_n hx hb dL_law_2407 rfl (lv_at hl 1 rfl) ?_
  refine lv_iload hx hb dL_law_2408 (lv_at hl 0 rfl) ?_
  refine lv_iconst (v := 2) hx hb dL_law_2410 (by decide) ?_
  refine lv_iadd hx hb dL_law_2411 ?_
  refine lv_topi (fun x_2 ex_2 => ?_)
  obtain rfl : x_2 = 2 := ex_2.trans (by decide)
  refine va_sld hx hb hX hbl hbA hS (by unfold vp_in; decide) dL_law_2412 ?_
  refine W.eq (g2 := F0 m 2413 ls [.int (xs 2), .long (((xs 1).toInt64) <<< ((32 : Int32).toInt64 &&& 63)), .ref (a 0)]) rfl ?_
  refine lv_i2l (v := (xs 2).toInt64) hx hb dL_law_2413 rfl ?_
  refine lv_ldc2 hx hb hown hk252 dL_law_2414 ?_
  refine lv_land hx hb dL_law_2417 ?_
  refine lv_lor hx hb dL_law_2418 ?_
  refine lv_aload_n hx hb dL_law_2419 rfl (lv_at hl 4 rfl) ?_
  have hPc : va_P (dC, dI) vwCl (offW a g ++ [(ou, .inl (g 2, 1, .inr (.inl (fun _ => 0))))]) H := P_l hP
  have hDc : va_D A (offW a g ++ [(ou, .inl (g 2, 1, .inr (.inl (fun _ => 0))))]) := D_l hDD
  have hPm0 : va_P (dC, dI) vwCl (modW b r1 r2 g 0) H := P_l (P_r hP)
  have hFc : ∀ q, va_A (offW a g ++ [(ou, .inl (g 2, 1, .inr (.inl (fun _ => 0))))]) H.size q → A q := A_all hDc hA hS.1
  refine va_calli (vx_runSW (As := [.ref (a 0), .long ((((xs 1).toInt64) <<< ((32 : Int32).toInt64 &&& 63)) ||| (((xs 2).toInt64) &&& 4294967295)), .ref ou]) (rest := []) ⟨hx, hb, hml, hown, hts⟩ (c_L_type l hlf dC dI g a ((((xs 1).toInt64) <<< ((32 : Int32).toInt64 &&& 63)) ||| (((xs 2).toInt64) &&& 4294967295)) ou (fun _ => 0) H.size) (vx_cwSW 3 hts (gX gL_law_L_type) rfl rfl rfl (by decide +kernel) ⟨Nat.le_of_ble_eq_true rfl, Nat.le_of_ble_eq_true rfl⟩) ⟨PG_blind, PG_call hK hG hS hPc hDc hFc⟩ rfl rfl hl.1 rfl (lv_room (Nat.le_of_ble_eq_true rfl)) dL_law_2420 ⟨Nat.le_of_ble_eq_true rfl, Nat.le_of_ble_eq_true rfl⟩) hS (fun q _ h => hFc q h) hFc (fun r_1 f_1 t_1 H_1 L_1 ht_1 hvm_1 hw_1 hB_1 hz_1 hk_1 hS => ?_)
  rw [ht_1] at hB_1
  have hPm : va_P (dC, dI) vwCl (modW b r1 r2 g 0) H_1 := P_l (rest_kept hP hDD hk_1)
  obtain ⟨hr1, hv1⟩ := hw_1
  obtain rfl : r_1 = (cd true true true) := hr1
  refine lv_istore (lv' := [(6, .int (cd true true true)), (5, .int 0), (0, .ref bs), (1, .ref (a 0)), (2, .ref (b 0)), (3, .ref ou), (4, .ref od)]) hx hb dL_law_2423 hl (by decide) rfl (fun ls hl => ?_)
  refine lv_aload_n hx hb dL_law_2425 rfl (lv_at hl 4 rfl) ?_
  refine lv_aload_n hx hb dL_law_2426 rfl (lv_at hl 2 rfl) ?_
  refine lv_iload hx hb dL_law_2427 (lv_at hl 1 rfl) ?_
  refine lv_iconst (v := 1) hx hb dL_law_2429 (by decide) ?_
  refine lv_iadd hx hb dL_law_2430 ?_
  refine lv_topi (fun x_3 ex_3 => ?_)
  obtain rfl : x_3 = 1 := ex_3.trans (by decide)
  refine va_sld hx hb hX hbl hbA hS (by unfold vp_in; decide) dL_law_2431 ?_
  refine W.eq (g2 := F0 m 2432 ls [.int (xs 1), .ref (b 0)]) rfl ?_
  refine lv_i2l (v := (xs 1).toInt64) hx hb dL_law_2432 rfl ?_
  refine lv_bipush (v := 32) hx hb dL_law_2433 (by decide) ?_
  refine lv_lshl (v := (((xs 1).toInt64) <<< ((32 : Int32).toInt64 &&& 63))) hx hb dL_law_2435 rfl ?_
  refine lv_aload_n hx hb dL_law_2436 rfl (lv_at hl 2 rfl) ?_
  refine lv_iload hx hb dL_law_2437 (lv_at hl 1 rfl) ?_
  refine lv_iconst (v := 2) hx hb dL_law_2439 (by decide) ?_
  refine lv_iadd hx hb dL_law_2440 ?_
  refine lv_topi (fun x_4 ex_4 => ?_)
  obtain rfl : x_4 = 2 := ex_4.trans (by decide)
  refine va_sld hx hb hX hbl hbA hS (by unfold vp_in; decide) dL_law_2441 ?_
  refine W.eq (g2 := F0 m 2442 ls [.int (xs 2), .long (((xs 1).toInt64) <<< ((32 : Int32).toInt64 &&& 63)), .ref (b 0)]) rfl ?_
  refine lv_i2l (v := (xs 2).toInt64) hx hb dL_law_2442 rfl ?_
  refine lv_ldc2 hx hb hown hk252 dL_law_2443 ?_
  refine lv_land hx hb dL_law_2446 ?_
  refine lv_lor hx hb dL_law_2447 ?_
  have hDm : va_D A (modW b r1 r2 g 0) := D_l (D_r hDD)
  have hFm : ∀ q, va_A (modW b r1 r2 g 0) H_1.size q → A q := A_all hDm hA hS.1
  refine va_calli (va_runV (As := [.long ((((xs 1).toInt64) <<< ((32 : Int32).toInt64 &&& 63)) ||| (((xs 2).toInt64) &&& 4294967295))]) (rest := []) ⟨hx, hb, hml, hown, hts⟩ (c_X13_type l dC dI g b r1 r2 ((((xs 1).toInt64) <<< ((32 : Int32).toInt64 &&& 63)) ||| (((xs 2).toInt64) &&& 4294967295)) 0 H_1.size) (cwV 1 hts (gX gL_law_X13_type) rfl rfl rfl (by decide +kernel) ⟨Nat.le_of_ble_eq_true rfl, Nat.le_of_ble_eq_true rfl⟩) ⟨PG_blind, va_recv hK hPm (ci := 15) (q0 := 0) rfl (m_0 b r1 r2 g 0), PG_call hK hG hS hPm hDm hFm⟩ rfl rfl hl.1 rfl (lv_room (Nat.le_of_ble_eq_true rfl)) dL_law_2448 ⟨Nat.le_of_ble_eq_true rfl, Nat.le_of_ble_eq_true rfl⟩) hS (fun q _ h => hFm q h) hFm (fun r_2 u_2 t_2 H_2 L_2 ht_2 hvm_2 hw_2 hB_2 hz_2 hk_2 hS => ?_)
  replace hB_1 := kept_by hB_1 hk_2 (ap_ou hDD)
  obtain ⟨fs, hB_2⟩ := hB_2
  rw [ht_2] at hB_2
  refine lv_istore (lv' := [(7, .int r_2), (6, .int (cd true true true)), (5, .int 0), (0, .ref bs), (1, .ref (a 0)), (2, .ref (b 0)), (3, .ref ou), (4, .ref od)]) hx hb dL_law_2451 hl (by decide) rfl (fun ls hl => ?_)
  refine lv_aload_n hx hb dL_law_2453 rfl (lv_at hl 5 rfl) ?_
  have hFt := A_one (e := .inr (15, .int ((cd true true true)) :: fs)) (sz := 0) (H0 := H) (A_b0 hDD) hA hS
  have hDt : va_D A [(b 0, .inr (15, .int ((cd true true true)) :: fs))] := D_one (A_b0 hDD)
  refine va_calli (va_runV (As := []) (rest := []) ⟨hx, hb, hml, hown, hts⟩ (c_X13_thrown l dC dI g [(b 0, .inr (15, .int ((cd true true true)) :: fs))] (b 0) ((cd true true true)) fs 0 rfl H_2.size) (cwV 0 hts (gX gL_law_X13_thrown) rfl rfl rfl (by decide +kernel) ⟨Nat.le_of_ble_eq_true rfl, Nat.le_of_ble_eq_true rfl⟩) ⟨PG_blind, va_recv hK hB_2 (ci := 15) (q0 := 0) rfl rfl, PG_call hK hG hS hB_2 hDt hFt⟩ rfl rfl hl.1 rfl (lv_room (Nat.le_of_ble_eq_true rfl)) dL_law_2454 ⟨Nat.le_of_ble_eq_true rfl, Nat.le_of_ble_eq_true rfl⟩) hS (fun q _ h => hFt q h) hFt (fun r_3 u_3 t_3 H_3 L_3 ht_3 hvm_3 hw_3 hB_3 hz_3 hk_3 hS => ?_)
  obtain rfl : r_3 = (cd true true true) := hw_3
  replace hB_1 := kept_by hB_1 hk_3 (fun j k p q hj hk e => by
      obtain rfl : j = 0 := by
        have h1 := (List.getElem?_eq_some_iff.mp hj).1
        simp only [List.length_singleton] at h1
        omega
      cases hj
      exact ap_ou hDD 0 k _ q (m_0 b r1 r2 g 0) hk e)
  refine lv_iload hx hb dL_law_2457 (lv_at hl 1 rfl) ?_
  refine lv_icmp_eq (tgt := 2464) hx hb dL_law_2459 (by decide) (fun _ => ?_) (fun c9 => absurd rfl c9)
  refine lv_iload hx hb dL_law_2464 (lv_at hl 1 rfl) ?_
  refine lv_if_ne (tgt := 2481) hx hb dL_law_2466 (by decide) (fun h0 => ?_) (fun h0 => ?_)
  · refine lv_goto (tgt := 2812) hx hb dL_law_2481 (by decide) ?_
    refine W.widen (k := 6000) (n := 90000) (Nat.le_of_ble_eq_true rfl) (Nat.le_of_ble_eq_true rfl) ?_
    exact hend _ _ hS _ (lv_sub hl [2, 3] rfl)
  · obtain rfl : r_2 = nI (ct ((((xs 1).toInt64) <<< ((32 : Int32).toInt64 &&& 63)) ||| (((xs 2).toInt64) &&& 4294967295)) 8) := hw_2 h0
    refine lv_aload_n hx hb dL_law_2469 rfl (lv_at hl 6 rfl) ?_
    refine lv_iconst (v := 0) hx hb dL_law_2470 (by decide) ?_
    refine va_lald hx hb hK hB_1 0 2 rfl rfl (by unfold vp_in; decide) dL_law_2471 ?_
    refine W.eq (g2 := F0 m 2472 ls [.long ((nI (ct ((((xs 1).toInt64) <<< ((32 : Int32).toInt64 &&& 63)) ||| (((xs 2).toInt64) &&& 4294967295)) 8) : Int32).toInt64)]) (by rw [show f_1 (0 : Int32).toNatClampNeg = (nI (ct ((((xs 1).toInt64) <<< ((32 : Int32).toInt64 &&& 63)) ||| (((xs 2).toInt64) &&& 4294967295)) 8) : Int32).toInt64 from hv1 h0]) ?_
    refine lv_iload hx hb dL_law_2472 (lv_at hl 0 rfl) ?_
    refine lv_i2l (v := (nI (ct ((((xs 1).toInt64) <<< ((32 : Int32).toInt64 &&& 63)) ||| (((xs 2).toInt64) &&& 4294967295)) 8)).toInt64) hx hb dL_law_2474 rfl ?_
    refine W.lcmp hx hb dL_law_2475 ?_
    refine W.eq (g2 := F0 m 2476 ls [.int 0]) (by first | rw [lg_cmp_self] | exact congrArg (fun z => F0 m 2476 ls [.int z]) (lg_cmp_self _)) ?_
    refine lv_if_eq (tgt := 2481) hx hb dL_law_2476 (by decide) (fun c_5 => ?_) (fun c_5 => absurd (by decide) c_5)
    refine lv_goto (tgt := 2812) hx hb dL_law_2481 (by decide) ?_
    refine W.widen (k := 6000) (n := 90000) (Nat.le_of_ble_eq_true rfl) (Nat.le_of_ble_eq_true rfl) ?_
    exact hend _ _ hS _ (lv_sub hl [2, 3] rfl)
set_option maxHeartbeats 4000000 in
set_option maxRecDepth 100000 in
theorem law_34 {l : Launch} {p : Program} {e : Env} {s : State} {m : MethodId} {below : List Frame} {meth : Method} {c : Code} {bs : Nat} {xs : Nat → Int32} {A : Nat → Prop} {dC : Nat → ClassId} {dI : Nat → Nat → Nat} {g : Nat → ClassId} {a b r1 r2 : Nat → Nat} {ou od : Nat} {Q : State → Prop} {H : Heap} {locs : List Loc} {ls : Array Slot} (C9 : LC l p s m c bs xs A dC dI g a b r1 r2 ou od) (hP : va_P (dC, dI) vwCl (lawL a g ou ++ lawR b r1 r2 g od) H) (hS : va_S A s.heap H locs) (hl : lv_has ls 10 [(5, .int 0), (0, .ref bs), (1, .ref (a 0)), (2, .ref (b 0)), (3, .ref ou), (4, .ref od)]) (hend : ∀ (H : Heap) (locs : List Loc), va_S A s.heap H locs → ∀ (ls : Array Slot), lv_has ls 10 [(5, .int 0), (0, .ref bs)] → W p l e room_1 s m #[Value.ref bs] below meth c H locs 6000 90000 Q (F0 m 2812 ls [])) : W p l e room_1 s m #[Value.ref bs] below meth c H locs 2000 30000 Q (F0 m 2484 ls []) := by
  obtain ⟨hlf, hx, hb, hml, hown, hts, hX, hbl, hbA, hK, hG, hA, hDD⟩ := C9
  refine lv_aload_n hx hb dL_law_2484 rfl (lv_at hl 2 rfl) ?_
  have hPc : va_P (dC, dI) vwCl (offW a g) H := P_l (P_l hP)
  have hDc : va_D A (offW a g) := D_l (D_l hDD)
  have hFc : ∀ q, va_A (offW a g) H.size q → A q := A_all hDc hA hS.1
  have hPm0 : va_P (dC, dI) vwCl (modW b r1 r2 g 0) H := P_l (P_r hP)
  refine va_calli (va_runV (As := []) (rest := []) ⟨hx, hb, hml, hown, hts⟩ (c_X11_clearText l dC dI g a H.size) (cwV 0 hts (gX gL_law_X11_clearText) rfl rfl rfl (by decide +kernel) ⟨Nat.le_of_ble_eq_true rfl, Nat.le_of_ble_eq_true rfl⟩) ⟨PG_blind, va_recv hK hPc (ci := 13) (q0 := 0) rfl rfl, PG_call hK hG hS hPc hDc hFc⟩ rfl rfl hl.1 rfl (lv_room (Nat.le_of_ble_eq_true rfl)) dL_law_2485 ⟨Nat.le_of_ble_eq_true rfl, Nat.le_of_ble_eq_true rfl⟩) hS (fun q _ h => hFc q h) hFc (fun r_1 u_1 t_1 H_1 L_1 ht_1 hvm_1 hw_1 hB_1 hz_1 hk_1 hS => ?_)
  have hPm : va_P (dC, dI) vwCl (modW b r1 r2 g 0) H_1 := kept_by hPm0 hk_1 (ap_om hDD)
  obtain rfl : r_1 = 0 := hw_1
  refine lv_aload_n hx hb dL_law_2488 rfl (lv_at hl 3 rfl) ?_
  have hDm : va_D A (modW b r1 r2 g 0) := D_l (D_r hDD)
  have hFm : ∀ q, va_A (modW b r1 r2 g 0) H_1.size q → A q := A_all hDm hA hS.1
  refine va_calli (va_runV (As := []) (rest := [.int 0]) ⟨hx, hb, hml, hown, hts⟩ (c_X13_clearText l dC dI g b r1 r2 0 H_1.size) (cwV 0 hts (gX gL_law_X13_clearText) rfl rfl rfl (by decide +kernel) ⟨Nat.le_of_ble_eq_true rfl, Nat.le_of_ble_eq_true rfl⟩) ⟨PG_blind, va_recv hK hPm (ci := 15) (q0 := 0) rfl (m_0 b r1 r2 g 0), PG_call hK hG hS hPm hDm hFm⟩ rfl rfl hl.1 rfl (lv_room (Nat.le_of_ble_eq_true rfl)) dL_law_2489 ⟨Nat.le_of_ble_eq_true rfl, Nat.le_of_ble_eq_true rfl⟩) hS (fun q _ h => hFm q h) hFm (fun r_2 u_2 t_2 H_2 L_2 ht_2 hvm_2 hw_2 hB_2 hz_2 hk_2 hS => ?_)
  obtain rfl : r_2 = 0 := hw_2 rfl
  refine lv_icmp_eq (tgt := 2812) hx hb dL_law_2492 (by decide) (fun c_1 => ?_) (fun c_1 => absurd (by decide) c_1)
  refine W.widen (k := 6000) (n := 90000) (Nat.le_of_ble_eq_true rfl) (Nat.le_of_ble_eq_true rfl) ?_
  exact hend _ _ hS _ (lv_sub hl [0, 1] rfl)
set_option maxHeartbeats 4000000 in
set_option maxRecDepth 100000 in
theorem law_35 {l : Launch} {p : Program} {e : Env} {s : State} {m : MethodId} {below : List Frame} {meth : Method} {c : Code} {bs : Nat} {xs : Nat → Int32} {A : Nat → Prop} {dC : Nat → ClassId} {dI : Nat → Nat → Nat} {g : Nat → ClassId} {a b r1 r2 : Nat → Nat} {ou od : Nat} {Q : State → Prop} {H : Heap} {locs : List Loc} {ls : Array Slot} (C9 : LC l p s m c bs xs A dC dI g a b r1 r2 ou od) (hP : va_P (dC, dI) vwCl (lawL a g ou ++ lawR b r1 r2 g od) H) (hS : va_S A s.heap H locs) (hl : lv_has ls 10 [(5, .int 0), (0, .ref bs), (1, .ref (a 0)), (2, .ref (b 0)), (3, .ref ou), (4, .ref od)]) (hend : ∀ (H : Heap) (locs : List Loc), va_S A s.heap H locs → ∀ (ls : Array Slot), lv_has ls 10 [(5, .int 0), (0, .ref bs)] → W p l e room_1 s m #[Value.ref bs] below meth c H locs 6000 90000 Q (F0 m 2812 ls [])) : W p l e room_1 s m #[Value.ref bs] below meth c H locs 2000 30000 Q (F0 m 2497 ls []) := by
  obtain ⟨hlf, hx, hb, hml, hown, hts, hX, hbl, hbA, hK, hG, hA, hDD⟩ := C9
  refine lv_aload_n hx hb dL_law_2497 rfl (lv_at hl 2 rfl) ?_
  have hPc : va_P (dC, dI) vwCl (offW a g) H := P_l (P_l hP)
  have hDc : va_D A (offW a g) := D_l (D_l hDD)
  have hFc : ∀ q, va_A (offW a g) H.size q → A q := A_all hDc hA hS.1
  have hPm0 : va_P (dC, dI) vwCl (modW b r1 r2 g 0) H := P_l (P_r hP)
  refine va_calli (va_runV (As := []) (rest := []) ⟨hx, hb, hml, hown, hts⟩ (c_X11_textLength l dC dI g a H.size) (cwV 0 hts (gX gL_law_X11_textLength) rfl rfl rfl (by decide +kernel) ⟨Nat.le_of_ble_eq_true rfl, Nat.le_of_ble_eq_true rfl⟩) ⟨PG_blind, va_recv hK hPc (ci := 13) (q0 := 0) rfl rfl, PG_call hK hG hS hPc hDc hFc⟩ rfl rfl hl.1 rfl (lv_room (Nat.le_of_ble_eq_true rfl)) dL_law_2498 ⟨Nat.le_of_ble_eq_true rfl, Nat.le_of_ble_eq_true rfl⟩) hS (fun q _ h => hFc q h) hFc (fun r_1 u_1 t_1 H_1 L_1 ht_1 hvm_1 hw_1 hB_1 hz_1 hk_1 hS => ?_)
  have hPm : va_P (dC, dI) vwCl (modW b r1 r2 g 0) H_1 := kept_by hPm0 hk_1 (ap_om hDD)
  obtain rfl : r_1 = 0 := hw_1
  refine lv_aload_n hx hb dL_law_2501 rfl (lv_at hl 3 rfl) ?_
  have hDm : va_D A (modW b r1 r2 g 0) := D_l (D_r hDD)
  have hFm : ∀ q, va_A (modW b r1 r2 g 0) H_1.size q → A q := A_all hDm hA hS.1
  refine va_calli (va_runV (As := []) (rest := [.int 0]) ⟨hx, hb, hml, hown, hts⟩ (c_X13_textLength l dC dI g b r1 r2 0 H_1.size) (cwV 0 hts (gX gL_law_X13_textLength) rfl rfl rfl (by decide +kernel) ⟨Nat.le_of_ble_eq_true rfl, Nat.le_of_ble_eq_true rfl⟩) ⟨PG_blind, va_recv hK hPm (ci := 15) (q0 := 0) rfl (m_0 b r1 r2 g 0), PG_call hK hG hS hPm hDm hFm⟩ rfl rfl hl.1 rfl (lv_room (Nat.le_of_ble_eq_true rfl)) dL_law_2502 ⟨Nat.le_of_ble_eq_true rfl, Nat.le_of_ble_eq_true rfl⟩) hS (fun q _ h => hFm q h) hFm (fun r_2 u_2 t_2 H_2 L_2 ht_2 hvm_2 hw_2 hB_2 hz_2 hk_2 hS => ?_)
  obtain rfl : r_2 = 0 := hw_2 rfl
  refine lv_icmp_eq (tgt := 2812) hx hb dL_law_2505 (by decide) (fun c_1 => ?_) (fun c_1 => absurd (by decide) c_1)
  refine W.widen (k := 6000) (n := 90000) (Nat.le_of_ble_eq_true rfl) (Nat.le_of_ble_eq_true rfl) ?_
  exact hend _ _ hS _ (lv_sub hl [0, 1] rfl)
