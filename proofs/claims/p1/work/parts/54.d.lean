theorem dL_law_2260 : decode cL_law 2260 = .ok (.aload_n 1, 1) := by decide +kernel
theorem dL_law_2261 : decode cL_law 2261 = .ok (.aload_n 0, 1) := by decide +kernel
theorem dL_law_2262 : decode cL_law 2262 = .ok (.iload 5, 2) := by decide +kernel
theorem dL_law_2264 : decode cL_law 2264 = .ok (.iconst 1, 1) := by decide +kernel
theorem dL_law_2265 : decode cL_law 2265 = .ok (.iadd, 1) := by decide +kernel
theorem dL_law_2266 : decode cL_law 2266 = .ok (.iaload, 1) := by decide +kernel
theorem dL_law_2267 : decode cL_law 2267 = .ok (.aload_n 0, 1) := by decide +kernel
theorem dL_law_2268 : decode cL_law 2268 = .ok (.iload 5, 2) := by decide +kernel
theorem dL_law_2270 : decode cL_law 2270 = .ok (.iconst 2, 1) := by decide +kernel
theorem dL_law_2271 : decode cL_law 2271 = .ok (.iadd, 1) := by decide +kernel
theorem dL_law_2272 : decode cL_law 2272 = .ok (.iaload, 1) := by decide +kernel
theorem dL_law_2273 : decode cL_law 2273 = .ok (.aload_n 0, 1) := by decide +kernel
theorem dL_law_2274 : decode cL_law 2274 = .ok (.iload 5, 2) := by decide +kernel
theorem dL_law_2276 : decode cL_law 2276 = .ok (.iconst 3, 1) := by decide +kernel
theorem dL_law_2277 : decode cL_law 2277 = .ok (.iadd, 1) := by decide +kernel
theorem dL_law_2278 : decode cL_law 2278 = .ok (.iaload, 1) := by decide +kernel
theorem dL_law_2279 : decode cL_law 2279 = .ok (.aload_n 3, 1) := by decide +kernel
set_option maxRecDepth 200000 in
theorem ggL_law_L_between_h : GoodIn wsL_law [.codeWith yL_between cL_between 6 (some .int) [(0, 12, 15, 13), (0, 12, 19, 17)]] := goodIn_r _ [1158] rfl (by decide +kernel)
set_option maxRecDepth 200000 in
theorem ggL_law_L_between_0 : GoodIn wsL_law wsL_between_r1 := goodIn_r _ [191, 1159, 1160, 1161, 2, 1162, 18, 1163, 492, 421, 493, 1111, 1112, 1113, 1114, 212, 213, 196, 197, 198, 199, 200, 201, 20] rfl (by decide +kernel)
set_option maxRecDepth 200000 in
theorem ggL_law_L_between_1 : GoodIn wsL_law wsL_between_r2 := goodIn_r _ [372, 373, 374, 23, 375, 66, 376, 347, 348, 349, 65, 377, 378, 379, 17, 380, 59, 1137, 1138, 1139, 1140, 1060, 1061, 1062] rfl (by decide +kernel)
set_option maxRecDepth 200000 in
theorem ggL_law_L_between_2 : GoodIn wsL_law wsL_between_r3 := goodIn_r _ [1063, 1064, 306, 307, 308, 1115, 1116, 1117, 1118] rfl (by decide +kernel)
set_option maxRecDepth 200000 in
theorem ggL_law_L_between_3 : GoodIn wsL_law wsX110 := goodIn_r _ [1538, 1539, 1540, 1541, 1542, 1543, 1544, 1545, 1546, 1547, 1548, 1549, 1550] rfl (by decide +kernel)
set_option maxRecDepth 200000 in
theorem ggL_law_L_between_4 : GoodIn wsL_law wsX90 := goodIn_r _ [1568, 1569] rfl (by decide +kernel)
set_option maxRecDepth 200000 in
theorem ggL_law_L_between_5 : GoodIn wsL_law wsX00 := goodIn_r _ [1565, 1566, 1567] rfl (by decide +kernel)
set_option maxRecDepth 20000 in
theorem ggL_law_L_between : GoodIn wsL_law wsL_between := goodIn_ca (goodIn_ca (fun w h => (List.mem_cons.mp h).elim (fun e => ggL_law_L_between_h w (List.mem_singleton.mpr e)) (fun h => (goodIn_app (goodIn_app (goodIn_app (goodIn_app ggL_law_L_between_0 (goodIn_app ggL_law_L_between_1 ggL_law_L_between_2)) ggL_law_L_between_3) ggL_law_L_between_4) ggL_law_L_between_5) w h)) (goodIn_sub (fun _ h => List.mem_append_left _ (List.mem_append_right _ h)) (by decide +kernel))) (goodIn_sub (fun _ h => List.mem_append_left _ (List.mem_append_left _ (List.mem_append_left _ (List.mem_append_right _ h)))) (by decide +kernel))
set_option maxRecDepth 20000 in
theorem gL_law_L_between : GoodIn wsL_law (va_wsS RL 246 yL_between wsL_between) := goodIn_app (goodIn_of _ (by decide +kernel)) ggL_law_L_between
theorem dL_law_2280 : decode cL_law 2280 = .ok (.invokestatic 246, 3) := by decide +kernel
theorem dL_law_2283 : decode cL_law 2283 = .ok (.istore 6, 2) := by decide +kernel
theorem dL_law_2285 : decode cL_law 2285 = .ok (.aload_n 2, 1) := by decide +kernel
theorem dL_law_2286 : decode cL_law 2286 = .ok (.aload_n 0, 1) := by decide +kernel
theorem dL_law_2287 : decode cL_law 2287 = .ok (.iload 5, 2) := by decide +kernel
theorem dL_law_2289 : decode cL_law 2289 = .ok (.iconst 1, 1) := by decide +kernel
theorem dL_law_2290 : decode cL_law 2290 = .ok (.iadd, 1) := by decide +kernel
theorem dL_law_2291 : decode cL_law 2291 = .ok (.iaload, 1) := by decide +kernel
theorem dL_law_2292 : decode cL_law 2292 = .ok (.aload_n 0, 1) := by decide +kernel
theorem dL_law_2293 : decode cL_law 2293 = .ok (.iload 5, 2) := by decide +kernel
theorem dL_law_2295 : decode cL_law 2295 = .ok (.iconst 2, 1) := by decide +kernel
theorem dL_law_2296 : decode cL_law 2296 = .ok (.iadd, 1) := by decide +kernel
theorem dL_law_2297 : decode cL_law 2297 = .ok (.iaload, 1) := by decide +kernel
theorem dL_law_2298 : decode cL_law 2298 = .ok (.aload_n 0, 1) := by decide +kernel
theorem dL_law_2299 : decode cL_law 2299 = .ok (.iload 5, 2) := by decide +kernel
theorem dL_law_2301 : decode cL_law 2301 = .ok (.iconst 3, 1) := by decide +kernel
theorem dL_law_2302 : decode cL_law 2302 = .ok (.iadd, 1) := by decide +kernel
theorem dL_law_2303 : decode cL_law 2303 = .ok (.iaload, 1) := by decide +kernel
set_option maxRecDepth 200000 in
theorem ggL_law_X13_between : GoodIn wsL_law wsX13_between := goodIn_r _ [1167, 182, 179, 226, 227, 5, 228, 229, 230, 231, 1124, 1125, 1126, 1127, 385, 386, 387, 388, 389, 390, 391, 392, 239, 240, 241, 242, 243, 1551, 1552, 1553, 1554, 1555, 1556, 1557, 1558, 1559, 1560, 1561, 1562, 1563, 1564] rfl (by decide +kernel)
set_option maxRecDepth 20000 in
theorem gL_law_X13_between : GoodIn wsL_law (wsV RL 248 RX13 yX13_between wsX13_between) := goodIn_app (goodIn_of _ (by decide +kernel)) ggL_law_X13_between
theorem dL_law_2304 : decode cL_law 2304 = .ok (.invokevirtual 248, 3) := by decide +kernel
theorem dL_law_2307 : decode cL_law 2307 = .ok (.istore 7, 2) := by decide +kernel
theorem dL_law_2309 : decode cL_law 2309 = .ok (.aload_n 2, 1) := by decide +kernel
theorem dL_law_2310 : decode cL_law 2310 = .ok (.invokevirtual 147, 3) := by decide +kernel
theorem dL_law_2313 : decode cL_law 2313 = .ok (.iload 6, 2) := by decide +kernel
theorem dL_law_2315 : decode cL_law 2315 = .ok (.if_icmp .eq 5, 3) := by decide +kernel
theorem dL_law_2320 : decode cL_law 2320 = .ok (.iload 6, 2) := by decide +kernel
theorem dL_law_2322 : decode cL_law 2322 = .ok (.ifCond .ne 15, 3) := by decide +kernel
theorem dL_law_2337 : decode cL_law 2337 = .ok (.goto 475, 3) := by decide +kernel
theorem dL_law_2325 : decode cL_law 2325 = .ok (.aload_n 3, 1) := by decide +kernel
theorem dL_law_2326 : decode cL_law 2326 = .ok (.iconst 0, 1) := by decide +kernel
theorem dL_law_2327 : decode cL_law 2327 = .ok (.laload, 1) := by decide +kernel
theorem dL_law_2328 : decode cL_law 2328 = .ok (.iload 7, 2) := by decide +kernel
theorem dL_law_2330 : decode cL_law 2330 = .ok (.i2l, 1) := by decide +kernel
theorem dL_law_2331 : decode cL_law 2331 = .ok (.lcmp, 1) := by decide +kernel
theorem dL_law_2332 : decode cL_law 2332 = .ok (.ifCond .eq 5, 3) := by decide +kernel
theorem dL_law_2340 : decode cL_law 2340 = .ok (.aload_n 1, 1) := by decide +kernel
theorem dL_law_2341 : decode cL_law 2341 = .ok (.aload_n 0, 1) := by decide +kernel
theorem dL_law_2342 : decode cL_law 2342 = .ok (.iload 5, 2) := by decide +kernel
theorem dL_law_2344 : decode cL_law 2344 = .ok (.iconst 1, 1) := by decide +kernel
theorem dL_law_2345 : decode cL_law 2345 = .ok (.iadd, 1) := by decide +kernel
theorem dL_law_2346 : decode cL_law 2346 = .ok (.iaload, 1) := by decide +kernel
theorem dL_law_2347 : decode cL_law 2347 = .ok (.aload_n 3, 1) := by decide +kernel
set_option maxRecDepth 200000 in
theorem ggL_law_L_keys_h : GoodIn wsL_law [.codeWith yL_keys cL_keys 4 (some .int) [(0, 9, 12, 13), (0, 9, 15, 17)]] := goodIn_r _ [1170] rfl (by decide +kernel)
set_option maxRecDepth 200000 in
theorem ggL_law_L_keys_0 : GoodIn wsL_law wsL_keys_r1 := goodIn_r _ [191, 1171, 1172, 1173, 2, 1174, 18, 1111, 1112, 1113, 1114, 212, 213, 196, 197, 198, 199, 200, 201, 20, 372, 373, 374, 23] rfl (by decide +kernel)
set_option maxRecDepth 200000 in
theorem ggL_law_L_keys_1 : GoodIn wsL_law wsL_keys_r2 := goodIn_r _ [375, 66, 376, 347, 348, 349, 65, 377, 378, 379, 17, 380, 59, 1119, 1061, 1062, 1063, 1064, 306, 307, 308] rfl (by decide +kernel)
set_option maxRecDepth 200000 in
theorem ggL_law_L_keys_2 : GoodIn wsL_law wsX90 := goodIn_r _ [1568, 1569] rfl (by decide +kernel)
set_option maxRecDepth 200000 in
theorem ggL_law_L_keys_3 : GoodIn wsL_law wsX110 := goodIn_r _ [1538, 1539, 1540, 1541, 1542, 1543, 1544, 1545, 1546, 1547, 1548, 1549, 1550] rfl (by decide +kernel)
set_option maxRecDepth 200000 in
theorem ggL_law_L_keys_4 : GoodIn wsL_law wsX00 := goodIn_r _ [1565, 1566, 1567] rfl (by decide +kernel)
set_option maxRecDepth 20000 in
theorem ggL_law_L_keys : GoodIn wsL_law wsL_keys := goodIn_ca (goodIn_ca (fun w h => (List.mem_cons.mp h).elim (fun e => ggL_law_L_keys_h w (List.mem_singleton.mpr e)) (fun h => (goodIn_app (goodIn_app (goodIn_app (goodIn_app ggL_law_L_keys_0 ggL_law_L_keys_1) ggL_law_L_keys_2) ggL_law_L_keys_3) ggL_law_L_keys_4) w h)) (goodIn_sub (fun _ h => List.mem_append_left _ (List.mem_append_right _ h)) (by decide +kernel))) (goodIn_sub (fun _ h => List.mem_append_left _ (List.mem_append_left _ (List.mem_append_left _ (List.mem_append_right _ h)))) (by decide +kernel))
set_option maxRecDepth 20000 in
theorem gL_law_L_keys : GoodIn wsL_law (va_wsS RL 249 yL_keys wsL_keys) := goodIn_app (goodIn_of _ (by decide +kernel)) ggL_law_L_keys
theorem dL_law_2348 : decode cL_law 2348 = .ok (.invokestatic 249, 3) := by decide +kernel
theorem dL_law_2351 : decode cL_law 2351 = .ok (.istore 6, 2) := by decide +kernel
theorem dL_law_2353 : decode cL_law 2353 = .ok (.aload_n 2, 1) := by decide +kernel
theorem dL_law_2354 : decode cL_law 2354 = .ok (.aload_n 0, 1) := by decide +kernel
theorem dL_law_2355 : decode cL_law 2355 = .ok (.iload 5, 2) := by decide +kernel
theorem dL_law_2357 : decode cL_law 2357 = .ok (.iconst 1, 1) := by decide +kernel
theorem dL_law_2358 : decode cL_law 2358 = .ok (.iadd, 1) := by decide +kernel
theorem dL_law_2359 : decode cL_law 2359 = .ok (.iaload, 1) := by decide +kernel
set_option maxRecDepth 200000 in
theorem ggL_law_X13_keys_h : GoodIn wsL_law [.code yX13_keys cX13_keys 2 (some .int)] := goodIn_r _ [1178] rfl (by decide +kernel)
set_option maxRecDepth 200000 in
theorem ggL_law_X13_keys_0 : GoodIn wsL_law wsX13_keys_r1 := goodIn_r _ [182, 226, 227, 5, 228, 229, 230, 231, 1124, 1125, 1126, 1127, 385, 386, 387, 388, 389, 390, 391, 392, 179, 239, 240, 241] rfl (by decide +kernel)
set_option maxRecDepth 200000 in
theorem ggL_law_X13_keys_1 : GoodIn wsL_law wsX13_keys_r2 := goodIn_r _ [242, 243, 1100, 1101, 1102, 1103, 548, 549, 550, 557, 558, 559, 560, 561, 562, 563, 564, 565, 566, 567, 568, 569, 570, 571] rfl (by decide +kernel)
set_option maxRecDepth 200000 in
theorem ggL_law_X13_keys_2 : GoodIn wsL_law wsX13_keys_r3 := goodIn_r _ [13, 14, 572, 573, 574, 575, 576, 577, 578, 579, 580, 581, 582, 583, 584, 585, 586, 587, 588, 589, 590, 591, 592, 593] rfl (by decide +kernel)
set_option maxRecDepth 200000 in
theorem ggL_law_X13_keys_3 : GoodIn wsL_law wsX13_keys_r4 := goodIn_r _ [594, 595, 596, 597, 598, 599, 600, 601, 602, 603, 604, 605, 606, 607, 608, 492, 421, 493, 609, 610, 611, 612, 613, 614] rfl (by decide +kernel)
set_option maxRecDepth 200000 in
theorem ggL_law_X13_keys_4 : GoodIn wsL_law wsX13_keys_r5 := goodIn_r _ [615, 616, 617, 618, 619, 620, 621, 622, 623, 624, 625, 626, 627, 628, 629, 630, 631, 632, 420, 422, 633, 634, 635, 636] rfl (by decide +kernel)
set_option maxRecDepth 200000 in
theorem ggL_law_X13_keys_5 : GoodIn wsL_law wsX13_keys_r6 := goodIn_r _ [678, 679, 680, 58, 556, 645, 646, 647, 648, 649, 650, 651, 652, 653, 654, 655, 656, 657, 658, 659, 660, 661, 662, 663] rfl (by decide +kernel)
set_option maxRecDepth 200000 in
theorem ggL_law_X13_keys_6 : GoodIn wsL_law wsX13_keys_r7 := goodIn_r _ [664, 665, 666, 667, 668] rfl (by decide +kernel)
set_option maxRecDepth 200000 in
theorem ggL_law_X13_keys_7 : GoodIn wsL_law wsX130 := goodIn_r _ [1551, 1552, 1553, 1554, 1555, 1556, 1557, 1558, 1559, 1560, 1561, 1562, 1563, 1564] rfl (by decide +kernel)
set_option maxRecDepth 200000 in
theorem ggL_law_X13_keys_8 : GoodIn wsL_law wsJx4a65c0 := goodIn_r _ [1635, 1636, 1637] rfl (by decide +kernel)
set_option maxRecDepth 200000 in
theorem ggL_law_X13_keys_9 : GoodIn wsL_law wsJ60 := goodIn_r _ [1638] rfl (by decide +kernel)
set_option maxRecDepth 20000 in
theorem ggL_law_X13_keys : GoodIn wsL_law wsX13_keys := (fun w h => (List.mem_cons.mp h).elim (fun e => ggL_law_X13_keys_h w (List.mem_singleton.mpr e)) (fun h => (goodIn_app (goodIn_app (goodIn_app (goodIn_app ggL_law_X13_keys_0 (goodIn_app ggL_law_X13_keys_1 (goodIn_app ggL_law_X13_keys_2 (goodIn_app ggL_law_X13_keys_3 (goodIn_app ggL_law_X13_keys_4 (goodIn_app ggL_law_X13_keys_5 ggL_law_X13_keys_6)))))) ggL_law_X13_keys_7) ggL_law_X13_keys_8) ggL_law_X13_keys_9) w h))
set_option maxRecDepth 20000 in
theorem gL_law_X13_keys : GoodIn wsL_law (wsV RL 251 RX13 yX13_keys wsX13_keys) := goodIn_app (goodIn_of _ (by decide +kernel)) ggL_law_X13_keys
theorem dL_law_2360 : decode cL_law 2360 = .ok (.invokevirtual 251, 3) := by decide +kernel
theorem dL_law_2363 : decode cL_law 2363 = .ok (.istore 7, 2) := by decide +kernel
theorem dL_law_2365 : decode cL_law 2365 = .ok (.aload_n 2, 1) := by decide +kernel
theorem dL_law_2366 : decode cL_law 2366 = .ok (.invokevirtual 147, 3) := by decide +kernel
theorem dL_law_2369 : decode cL_law 2369 = .ok (.iload 6, 2) := by decide +kernel
theorem dL_law_2371 : decode cL_law 2371 = .ok (.if_icmp .eq 5, 3) := by decide +kernel
theorem dL_law_2376 : decode cL_law 2376 = .ok (.iload 6, 2) := by decide +kernel
theorem dL_law_2378 : decode cL_law 2378 = .ok (.ifCond .ne 15, 3) := by decide +kernel
theorem dL_law_2393 : decode cL_law 2393 = .ok (.goto 419, 3) := by decide +kernel
theorem dL_law_2381 : decode cL_law 2381 = .ok (.aload_n 3, 1) := by decide +kernel
theorem dL_law_2382 : decode cL_law 2382 = .ok (.iconst 0, 1) := by decide +kernel
theorem dL_law_2383 : decode cL_law 2383 = .ok (.laload, 1) := by decide +kernel
theorem dL_law_2384 : decode cL_law 2384 = .ok (.iload 7, 2) := by decide +kernel
theorem dL_law_2386 : decode cL_law 2386 = .ok (.i2l, 1) := by decide +kernel
theorem dL_law_2387 : decode cL_law 2387 = .ok (.lcmp, 1) := by decide +kernel
theorem dL_law_2388 : decode cL_law 2388 = .ok (.ifCond .eq 5, 3) := by decide +kernel
set_option maxHeartbeats 4000000 in
set_option maxRecDepth 100000 in
theorem law_31 {l : Launch} {p : Program} {e : Env} {s : State} {m : MethodId} {below : List Frame} {meth : Method} {c : Code} {bs : Nat} {xs : Nat → Int32} {A : Nat → Prop} {dC : Nat → ClassId} {dI : Nat → Nat → Nat} {g : Nat → ClassId} {a b r1 r2 : Nat → Nat} {ou od : Nat} {Q : State → Prop} {H : Heap} {locs : List Loc} {ls : Array Slot} (C9 : LC l p s m c bs xs A dC dI g a b r1 r2 ou od) (hP : va_P (dC, dI) vwCl (lawL a g ou ++ lawR b r1 r2 g od) H) (hS : va_S A s.heap H locs) (hl : lv_has ls 10 [(5, .int 0), (0, .ref bs), (1, .ref (a 0)), (2, .ref (b 0)), (3, .ref ou), (4, .ref od)]) (hend : ∀ (H : Heap) (locs : List Loc), va_S A s.heap H locs → ∀ (ls : Array Slot), lv_has ls 10 [(5, .int 0), (0, .ref bs)] → W p l e room_1 s m #[Value.ref bs] below meth c H locs 6000 90000 Q (F0 m 2812 ls [])) : W p l e room_1 s m #[Value.ref bs] below meth c H locs 2000 30000 Q (F0 m 2260 ls []) := by
  obtain ⟨hlf, hx, hb, hml, hown, hts, hX, hbl, hbA, hK, hG, hA, hDD⟩ := C9
  refine lv_aload_n hx hb dL_law_2260 rfl (lv_at hl 2 rfl) ?_
  refine lv_aload_n hx hb dL_law_2261 rfl (lv_at hl 1 rfl) ?_
  refine lv_iload hx hb dL_law_2262 (lv_at hl 0 rfl) ?_
  refine lv_iconst (v := 1) hx hb dL_law_2264 (by decide) ?_
  refine lv_iadd hx hb dL_law_2265 ?_
  refine lv_topi (fun x_1 ex_1 => ?_)
  obtain rfl : x_1 = 1 := ex_1.trans (by decide)
  refine va_sld hx hb hX hbl hbA hS (by unfold vp_in; decide) dL_law_2266 ?_
  refine W.eq (g2 := F0 m 2267 ls [.int (xs 1), .ref (a 0)]) rfl ?_
  refine lv_aload_n hx hb dL_law_2267 rfl (lv_at hl 1 rfl) ?_
  refine lv_iload hx hb dL_law_2268 (lv_at hl 0 rfl) ?_
  refine lv_iconst (v := 2) hx hb dL_law_2270 (by decide) ?_
  refine lv_iadd hx hb dL_law_2271 ?_
  refine lv_topi (fun x_2 ex_2 => ?_)
  obtain rfl : x_2 = 2 := ex_2.trans (by decide)
  refine va_sld hx hb hX hbl hbA hS (by unfold vp_in; decide) dL_law_2272 ?_
  refine W.eq (g2 := F0 m 2273 ls [.int (xs 2), .int (xs 1), .ref (a 0)]) rfl ?_
  refine lv_aload_n hx hb dL_law_2273 rfl (lv_at hl 1 rfl) ?_
  refine lv_iload hx hb dL_law_2274 (lv_at hl 0 rfl) ?_
  refine lv_iconst (v := 3) hx hb dL_law_2276 (by decide) ?_
  refine lv_iadd hx hb dL_law_2277 ?_
  refine lv_topi (fun x_3 ex_3 => ?_)
  obtain rfl : x_3 = 3 := ex_3.trans (by decide)
  refine va_sld hx hb hX hbl hbA hS (by unfold vp_in; decide) dL_law_2278 ?_
  refine W.eq (g2 := F0 m 2279 ls [.int (xs 3), .int (xs 2), .int (xs 1), .ref (a 0)]) rfl ?_
  refine lv_aload_n hx hb dL_law_2279 rfl (lv_at hl 4 rfl) ?_
  have hPc : va_P (dC, dI) vwCl (offW a g ++ [(ou, .inl (g 2, 1, .inr (.inl (fun _ => 0))))]) H := P_l hP
  have hDc : va_D A (offW a g ++ [(ou, .inl (g 2, 1, .inr (.inl (fun _ => 0))))]) := D_l hDD
  have hPm0 : va_P (dC, dI) vwCl (modW b r1 r2 g 0) H := P_l (P_r hP)
  have hFc : ∀ q, va_A (offW a g ++ [(ou, .inl (g 2, 1, .inr (.inl (fun _ => 0))))]) H.size q → A q := A_all hDc hA hS.1
  refine va_calli (vx_runSW (As := [.ref (a 0), .int (xs 1), .int (xs 2), .int (xs 3), .ref ou]) (rest := []) ⟨hx, hb, hml, hown, hts⟩ (c_L_between l hlf dC dI g a (xs 1) (xs 2) (xs 3) ou (fun _ => 0) H.size) (vx_cwSW 5 hts (gX gL_law_L_between) rfl rfl rfl (by decide +kernel) ⟨Nat.le_of_ble_eq_true rfl, Nat.le_of_ble_eq_true rfl⟩) ⟨PG_blind, PG_call hK hG hS hPc hDc hFc⟩ rfl rfl hl.1 rfl (lv_room (Nat.le_of_ble_eq_true rfl)) dL_law_2280 ⟨Nat.le_of_ble_eq_true rfl, Nat.le_of_ble_eq_true rfl⟩) hS (fun q _ h => hFc q h) hFc (fun r_1 f_1 t_1 H_1 L_1 ht_1 hvm_1 hw_1 hB_1 hz_1 hk_1 hS => ?_)
  rw [ht_1] at hB_1
  have hPm : va_P (dC, dI) vwCl (modW b r1 r2 g 0) H_1 := P_l (rest_kept hP hDD hk_1)
  obtain ⟨hr1, hv1⟩ := hw_1
  obtain rfl : r_1 = (cd (TOKb (xs 1)) true true) := hr1
  refine lv_istore (lv' := [(6, .int (cd (TOKb (xs 1)) true true)), (5, .int 0), (0, .ref bs), (1, .ref (a 0)), (2, .ref (b 0)), (3, .ref ou), (4, .ref od)]) hx hb dL_law_2283 hl (by decide) rfl (fun ls hl => ?_)
  refine lv_aload_n hx hb dL_law_2285 rfl (lv_at hl 4 rfl) ?_
  refine lv_aload_n hx hb dL_law_2286 rfl (lv_at hl 2 rfl) ?_
  refine lv_iload hx hb dL_law_2287 (lv_at hl 1 rfl) ?_
  refine lv_iconst (v := 1) hx hb dL_law_2289 (by decide) ?_
  refine lv_iadd hx hb dL_law_2290 ?_
  refine lv_topi (fun x_4 ex_4 => ?_)
  obtain rfl : x_4 = 1 := ex_4.trans (by decide)
  refine va_sld hx hb hX hbl hbA hS (by unfold vp_in; decide) dL_law_2291 ?_
  refine W.eq (g2 := F0 m 2292 ls [.int (xs 1), .ref (b 0)]) rfl ?_
  refine lv_aload_n hx hb dL_law_2292 rfl (lv_at hl 2 rfl) ?_
  refine lv_iload hx hb dL_law_2293 (lv_at hl 1 rfl) ?_
  refine lv_iconst (v := 2) hx hb dL_law_2295 (by decide) ?_
  refine lv_iadd hx hb dL_law_2296 ?_
  refine lv_topi (fun x_5 ex_5 => ?_)
  obtain rfl : x_5 = 2 := ex_5.trans (by decide)
  refine va_sld hx hb hX hbl hbA hS (by unfold vp_in; decide) dL_law_2297 ?_
  refine W.eq (g2 := F0 m 2298 ls [.int (xs 2), .int (xs 1), .ref (b 0)]) rfl ?_
  refine lv_aload_n hx hb dL_law_2298 rfl (lv_at hl 2 rfl) ?_
  refine lv_iload hx hb dL_law_2299 (lv_at hl 1 rfl) ?_
  refine lv_iconst (v := 3) hx hb dL_law_2301 (by decide) ?_
  refine lv_iadd hx hb dL_law_2302 ?_
  refine lv_topi (fun x_6 ex_6 => ?_)
  obtain rfl : x_6 = 3 := ex_6.trans (by decide)
  refine va_sld hx hb hX hbl hbA hS (by unfold vp_in; decide) dL_law_2303 ?_
  refine W.eq (g2 := F0 m 2304 ls [.int (xs 3), .int (xs 2), .int (xs 1), .ref (b 0)]) rfl ?_
  have hDm : va_D A (modW b r1 r2 g 0) := D_l (D_r hDD)
  have hFm : ∀ q, va_A (modW b r1 r2 g 0) H_1.size q → A q := A_all hDm hA hS.1
  refine va_calli (va_runV (As := [.int (xs 1), .int (xs 2), .int (xs 3)]) (rest := []) ⟨hx, hb, hml, hown, hts⟩ (c_X13_between l dC dI g b r1 r2 (xs 1) (xs 2) (xs 3) 0 H_1.size) (cwV 3 hts (gX gL_law_X13_between) rfl rfl rfl (by decide +kernel) ⟨Nat.le_of_ble_eq_true rfl, Nat.le_of_ble_eq_true rfl⟩) ⟨PG_blind, va_recv hK hPm (ci := 15) (q0 := 0) rfl (m_0 b r1 r2 g 0), PG_call hK hG hS hPm hDm hFm⟩ rfl rfl hl.1 rfl (lv_room (Nat.le_of_ble_eq_true rfl)) dL_law_2304 ⟨Nat.le_of_ble_eq_true rfl, Nat.le_of_ble_eq_true rfl⟩) hS (fun q _ h => hFm q h) hFm (fun r_2 u_2 t_2 H_2 L_2 ht_2 hvm_2 hw_2 hB_2 hz_2 hk_2 hS => ?_)
  replace hB_1 := kept_by hB_1 hk_2 (ap_ou hDD)
  obtain ⟨fs, hB_2⟩ := hB_2
  rw [ht_2] at hB_2
  refine lv_istore (lv' := [(7, .int r_2), (6, .int (cd (TOKb (xs 1)) true true)), (5, .int 0), (0, .ref bs), (1, .ref (a 0)), (2, .ref (b 0)), (3, .ref ou), (4, .ref od)]) hx hb dL_law_2307 hl (by decide) rfl (fun ls hl => ?_)
  refine lv_aload_n hx hb dL_law_2309 rfl (lv_at hl 5 rfl) ?_
  have hFt := A_one (e := .inr (15, .int ((cd (TOKb (xs 1)) true true)) :: fs)) (sz := 0) (H0 := H) (A_b0 hDD) hA hS
  have hDt : va_D A [(b 0, .inr (15, .int ((cd (TOKb (xs 1)) true true)) :: fs))] := D_one (A_b0 hDD)
  refine va_calli (va_runV (As := []) (rest := []) ⟨hx, hb, hml, hown, hts⟩ (c_X13_thrown l dC dI g [(b 0, .inr (15, .int ((cd (TOKb (xs 1)) true true)) :: fs))] (b 0) ((cd (TOKb (xs 1)) true true)) fs 0 rfl H_2.size) (cwV 0 hts (gX gL_law_X13_thrown) rfl rfl rfl (by decide +kernel) ⟨Nat.le_of_ble_eq_true rfl, Nat.le_of_ble_eq_true rfl⟩) ⟨PG_blind, va_recv hK hB_2 (ci := 15) (q0 := 0) rfl rfl, PG_call hK hG hS hB_2 hDt hFt⟩ rfl rfl hl.1 rfl (lv_room (Nat.le_of_ble_eq_true rfl)) dL_law_2310 ⟨Nat.le_of_ble_eq_true rfl, Nat.le_of_ble_eq_true rfl⟩) hS (fun q _ h => hFt q h) hFt (fun r_3 u_3 t_3 H_3 L_3 ht_3 hvm_3 hw_3 hB_3 hz_3 hk_3 hS => ?_)
  obtain rfl : r_3 = (cd (TOKb (xs 1)) true true) := hw_3
  replace hB_1 := kept_by hB_1 hk_3 (fun j k p q hj hk e => by
      obtain rfl : j = 0 := by
        have h1 := (List.getElem?_eq_some_iff.mp hj).1
        simp only [List.length_singleton] at h1
        omega
      cases hj
      exact ap_ou hDD 0 k _ q (m_0 b r1 r2 g 0) hk e)
  refine lv_iload hx hb dL_law_2313 (lv_at hl 1 rfl) ?_
  refine lv_icmp_eq (tgt := 2320) hx hb dL_law_2315 (by decide) (fun _ => ?_) (fun c9 => absurd rfl c9)
  refine lv_iload hx hb dL_law_2320 (lv_at hl 1 rfl) ?_
  refine lv_if_ne (tgt := 2337) hx hb dL_law_2322 (by decide) (fun h0 => ?_) (fun h0 => ?_)
  · refine lv_goto (tgt := 2812) hx hb dL_law_2337 (by decide) ?_
    refine W.widen (k := 6000) (n := 90000) (Nat.le_of_ble_eq_true rfl) (Nat.le_of_ble_eq_true rfl) ?_
    exact hend _ _ hS _ (lv_sub hl [2, 3] rfl)
  · obtain rfl : r_2 = 0 := hw_2 h0
    refine lv_aload_n hx hb dL_law_2325 rfl (lv_at hl 6 rfl) ?_
    refine lv_iconst (v := 0) hx hb dL_law_2326 (by decide) ?_
    refine va_lald hx hb hK hB_1 0 2 rfl rfl (by unfold vp_in; decide) dL_law_2327 ?_
    refine W.eq (g2 := F0 m 2328 ls [.long ((0 : Int32).toInt64)]) (by rw [show f_1 (0 : Int32).toNatClampNeg = (0 : Int32).toInt64 from hv1 h0]) ?_
    refine lv_iload hx hb dL_law_2328 (lv_at hl 0 rfl) ?_
    refine lv_i2l (v := (0 : Int32).toInt64) hx hb dL_law_2330 rfl ?_
    refine W.lcmp hx hb dL_law_2331 ?_
    refine W.eq (g2 := F0 m 2332 ls [.int 0]) (by first | rw [lg_cmp_self] | exact congrArg (fun z => F0 m 2332 ls [.int z]) (lg_cmp_self _)) ?_
    refine lv_if_eq (tgt := 2337) hx hb dL_law_2332 (by decide) (fun c_7 => ?_) (fun c_7 => absurd (by decide) c_7)
    refine lv_goto (tgt := 2812) hx hb dL_law_2337 (by decide) ?_
    refine W.widen (k := 6000) (n := 90000) (Nat.le_of_ble_eq_true rfl) (Nat.le_of_ble_eq_true rfl) ?_
    exact hend _ _ hS _ (lv_sub hl [2, 3] rfl)
set_option maxHeartbeats 4000000 in
set_option maxRecDepth 100000 in
theorem law_32 {l : Launch} {p : Program} {e : Env} {s : State} {m : MethodId} {below : List Frame} {meth : Method} {c : Code} {bs : Nat} {xs : Nat → Int32} {A : Nat → Prop} {dC : Nat → ClassId} {dI : Nat → Nat → Nat} {g : Nat → ClassId} {a b r1 r2 : Nat → Nat} {ou od : Nat} {Q : State → Prop} {H : Heap} {locs : List Loc} {ls : Array Slot} (C9 : LC l p s m c bs xs A dC dI g a b r1 r2 ou od) (hP : va_P (dC, dI) vwCl (lawL a g ou ++ lawR b r1 r2 g od) H) (hS : va_S A s.heap H locs) (hl : lv_has ls 10 [(5, .int 0), (0, .ref bs), (1, .ref (a 0)), (2, .ref (b 0)), (3, .ref ou), (4, .ref od)]) (hend : ∀ (H : Heap) (locs : List Loc), va_S A s.heap H locs → ∀ (ls : Array Slot), lv_has ls 10 [(5, .int 0), (0, .ref bs)] → W p l e room_1 s m #[Value.ref bs] below meth c H locs 6000 90000 Q (F0 m 2812 ls [])) : W p l e room_1 s m #[Value.ref bs] below meth c H locs 2000 30000 Q (F0 m 2340 ls []) := by
  obtain ⟨hlf, hx, hb, hml, hown, hts, hX, hbl, hbA, hK, hG, hA, hDD⟩ := C9
  refine lv_aload_n hx hb dL_law_2340 rfl (lv_at hl 2 rfl) ?_
  refine lv_aload_n hx hb dL_law_2341 rfl (lv_at hl 1 rfl) ?_
  refine lv_iload hx hb dL_law_2342 (lv_at hl 0 rfl) ?_
  refine lv_iconst (v := 1) hx hb dL_law_2344 (by decide) ?_
  refine lv_iadd hx hb dL_law_2345 ?_
  refine lv_topi (fun x_1 ex_1 => ?_)
  obtain rfl : x_1 = 1 := ex_1.trans (by decide)
  refine va_sld hx hb hX hbl hbA hS (by unfold vp_in; decide) dL_law_2346 ?_
  refine W.eq (g2 := F0 m 2347 ls [.int (xs 1), .ref (a 0)]) rfl ?_
  refine lv_aload_n hx hb dL_law_2347 rfl (lv_at hl 4 rfl) ?_
  have hPc : va_P (dC, dI) vwCl (offW a g ++ [(ou, .inl (g 2, 1, .inr (.inl (fun _ => 0))))]) H := P_l hP
  have hDc : va_D A (offW a g ++ [(ou, .inl (g 2, 1, .inr (.inl (fun _ => 0))))]) := D_l hDD
  have hPm0 : va_P (dC, dI) vwCl (modW b r1 r2 g 0) H := P_l (P_r hP)
  have hFc : ∀ q, va_A (offW a g ++ [(ou, .inl (g 2, 1, .inr (.inl (fun _ => 0))))]) H.size q → A q := A_all hDc hA hS.1
  refine va_calli (vx_runSW (As := [.ref (a 0), .int (xs 1), .ref ou]) (rest := []) ⟨hx, hb, hml, hown, hts⟩ (c_L_keys l hlf dC dI g a (xs 1) ou (fun _ => 0) H.size) (vx_cwSW 3 hts (gX gL_law_L_keys) rfl rfl rfl (by decide +kernel) ⟨Nat.le_of_ble_eq_true rfl, Nat.le_of_ble_eq_true rfl⟩) ⟨PG_blind, PG_call hK hG hS hPc hDc hFc⟩ rfl rfl hl.1 rfl (lv_room (Nat.le_of_ble_eq_true rfl)) dL_law_2348 ⟨Nat.le_of_ble_eq_true rfl, Nat.le_of_ble_eq_true rfl⟩) hS (fun q _ h => hFc q h) hFc (fun r_1 f_1 t_1 H_1 L_1 ht_1 hvm_1 hw_1 hB_1 hz_1 hk_1 hS => ?_)
  rw [ht_1] at hB_1
  have hPm : va_P (dC, dI) vwCl (modW b r1 r2 g 0) H_1 := P_l (rest_kept hP hDD hk_1)
  obtain ⟨hr1, hv1⟩ := hw_1
  obtain rfl : r_1 = (cd (TOKb (xs 1)) true true) := hr1
  refine lv_istore (lv' := [(6, .int (cd (TOKb (xs 1)) true true)), (5, .int 0), (0, .ref bs), (1, .ref (a 0)), (2, .ref (b 0)), (3, .ref ou), (4, .ref od)]) hx hb dL_law_2351 hl (by decide) rfl (fun ls hl => ?_)
  refine lv_aload_n hx hb dL_law_2353 rfl (lv_at hl 4 rfl) ?_
  refine lv_aload_n hx hb dL_law_2354 rfl (lv_at hl 2 rfl) ?_
  refine lv_iload hx hb dL_law_2355 (lv_at hl 1 rfl) ?_
  refine lv_iconst (v := 1) hx hb dL_law_2357 (by decide) ?_
  refine lv_iadd hx hb dL_law_2358 ?_
  refine lv_topi (fun x_2 ex_2 => ?_)
  obtain rfl : x_2 = 1 := ex_2.trans (by decide)
  refine va_sld hx hb hX hbl hbA hS (by unfold vp_in; decide) dL_law_2359 ?_
  refine W.eq (g2 := F0 m 2360 ls [.int (xs 1), .ref (b 0)]) rfl ?_
  have hDm : va_D A (modW b r1 r2 g 0) := D_l (D_r hDD)
  have hFm : ∀ q, va_A (modW b r1 r2 g 0) H_1.size q → A q := A_all hDm hA hS.1
  refine va_calli (va_runV (As := [.int (xs 1)]) (rest := []) ⟨hx, hb, hml, hown, hts⟩ (c_X13_keys l dC dI g b r1 r2 (xs 1) 0 H_1.size) (cwV 1 hts (gX gL_law_X13_keys) rfl rfl rfl (by decide +kernel) ⟨Nat.le_of_ble_eq_true rfl, Nat.le_of_ble_eq_true rfl⟩) ⟨PG_blind, va_recv hK hPm (ci := 15) (q0 := 0) rfl (m_0 b r1 r2 g 0), PG_call hK hG hS hPm hDm hFm⟩ rfl rfl hl.1 rfl (lv_room (Nat.le_of_ble_eq_true rfl)) dL_law_2360 ⟨Nat.le_of_ble_eq_true rfl, Nat.le_of_ble_eq_true rfl⟩) hS (fun q _ h => hFm q h) hFm (fun r_2 u_2 t_2 H_2 L_2 ht_2 hvm_2 hw_2 hB_2 hz_2 hk_2 hS => ?_)
  replace hB_1 := kept_by hB_1 hk_2 (ap_ou hDD)
  obtain ⟨fs, hB_2⟩ := hB_2
  rw [ht_2] at hB_2
  refine lv_istore (lv' := [(7, .int r_2), (6, .int (cd (TOKb (xs 1)) true true)), (5, .int 0), (0, .ref bs), (1, .ref (a 0)), (2, .ref (b 0)), (3, .ref ou), (4, .ref od)]) hx hb dL_law_2363 hl (by decide) rfl (fun ls hl => ?_)
  refine lv_aload_n hx hb dL_law_2365 rfl (lv_at hl 5 rfl) ?_
  have hFt := A_one (e := .inr (15, .int ((cd (TOKb (xs 1)) true true)) :: fs)) (sz := 0) (H0 := H) (A_b0 hDD) hA hS
  have hDt : va_D A [(b 0, .inr (15, .int ((cd (TOKb (xs 1)) true true)) :: fs))] := D_one (A_b0 hDD)
  refine va_calli (va_runV (As := []) (rest := []) ⟨hx, hb, hml, hown, hts⟩ (c_X13_thrown l dC dI g [(b 0, .inr (15, .int ((cd (TOKb (xs 1)) true true)) :: fs))] (b 0) ((cd (TOKb (xs 1)) true true)) fs 0 rfl H_2.size) (cwV 0 hts (gX gL_law_X13_thrown) rfl rfl rfl (by decide +kernel) ⟨Nat.le_of_ble_eq_true rfl, Nat.le_of_ble_eq_true rfl⟩) ⟨PG_blind, va_recv hK hB_2 (ci := 15) (q0 := 0) rfl rfl, PG_call hK hG hS hB_2 hDt hFt⟩ rfl rfl hl.1 rfl (lv_room (Nat.le_of_ble_eq_true rfl)) dL_law_2366 ⟨Nat.le_of_ble_eq_true rfl, Nat.le_of_ble_eq_true rfl⟩) hS (fun q _ h => hFt q h) hFt (fun r_3 u_3 t_3 H_3 L_3 ht_3 hvm_3 hw_3 hB_3 hz_3 hk_3 hS => ?_)
  obtain rfl : r_3 = (cd (TOKb (xs 1)) true true) := hw_3
  replace hB_1 := kept_by hB_1 hk_3 (fun j k p q hj hk e => by
      obtain rfl : j = 0 := by
        have h1 := (List.getElem?_eq_some_iff.mp hj).1
        simp only [List.length_singleton] at h1
        omega
      cases hj
      exact ap_ou hDD 0 k _ q (m_0 b r1 r2 g 0) hk e)
  refine lv_iload hx hb dL_law_2369 (lv_at hl 1 rfl) ?_
  refine lv_icmp_eq (tgt := 2376) hx hb dL_law_2371 (by decide) (fun _ => ?_) (fun c9 => absurd rfl c9)
  refine lv_iload hx hb dL_law_2376 (lv_at hl 1 rfl) ?_
  refine lv_if_ne (tgt := 2393) hx hb dL_law_2378 (by decide) (fun h0 => ?_) (fun h0 => ?_)
  · refine lv_goto (tgt := 2812) hx hb dL_law_2393 (by decide) ?_
    refine W.widen (k := 6000) (n := 90000) (Nat.le_of_ble_eq_true rfl) (Nat.le_of_ble_eq_true rfl) ?_
    exact hend _ _ hS _ (lv_sub hl [2, 3] rfl)
  · obtain rfl : r_2 = 0 := hw_2 h0
    refine lv_aload_n hx hb dL_law_2381 rfl (lv_at hl 6 rfl) ?_
    refine lv_iconst (v := 0) hx hb dL_law_2382 (by decide) ?_
    refine va_lald hx hb hK hB_1 0 2 rfl rfl (by unfold vp_in; decide) dL_law_2383 ?_
    refine W.eq (g2 := F0 m 2384 ls [.long ((0 : Int32).toInt64)]) (by rw [show f_1 (0 : Int32).toNatClampNeg = (0 : Int32).toInt64 from hv1 h0]) ?_
    refine lv_iload hx hb dL_law_2384 (lv_at hl 0 rfl) ?_
    refine lv_i2l (v := (0 : Int32).toInt64) hx hb dL_law_2386 rfl ?_
    refine W.lcmp hx hb dL_law_2387 ?_
    refine W.eq (g2 := F0 m 2388 ls [.int 0]) (by first | rw [lg_cmp_self] | exact congrArg (fun z => F0 m 2388 ls [.int z]) (lg_cmp_self _)) ?_
    refine lv_if_eq (tgt := 2393) hx hb dL_law_2388 (by decide) (fun c_3 => ?_) (fun c_3 => absurd (by decide) c_3)
    refine lv_goto (tgt := 2812) hx hb dL_law_2393 (by decide) ?_
    refine W.widen (k := 6000) (n := 90000) (Nat.le_of_ble_eq_true rfl) (Nat.le_of_ble_eq_true rfl) ?_
    exact hend _ _ hS _ (lv_sub hl [2, 3] rfl)
