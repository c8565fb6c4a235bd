theorem dL_law_2769 : decode cL_law 2769 = .ok (.aload_n 1, 1) := by decide +kernel
set_option maxRecDepth 200000 in
theorem ggL_law_X11_sortedShare : GoodIn wsL_law wsX11_sortedShare := goodIn_r _ [1531, 20, 18, 1532, 372, 373, 374, 23, 375, 66, 376, 347, 348, 349, 65, 377, 378, 379, 17, 380, 59, 1538, 1539, 1540, 1541, 1542, 1543, 1544, 1545, 1546, 1547, 1548, 1549, 1550, 1568, 1569, 1565, 1566, 1567] rfl (by decide +kernel)
set_option maxRecDepth 20000 in
theorem gL_law_X11_sortedShare : GoodIn wsL_law (wsV RL 287 RX11 yX11_sortedShare wsX11_sortedShare) := goodIn_app (goodIn_of _ (by decide +kernel)) ggL_law_X11_sortedShare
theorem dL_law_2770 : decode cL_law 2770 = .ok (.invokevirtual 287, 3) := by decide +kernel
theorem dL_law_2773 : decode cL_law 2773 = .ok (.f2d, 1) := by decide +kernel
theorem dL_law_2774 : decode cL_law 2774 = .ok (.dstore 6, 2) := by decide +kernel
theorem dL_law_2776 : decode cL_law 2776 = .ok (.aload_n 2, 1) := by decide +kernel
set_option maxRecDepth 200000 in
theorem ggL_law_X13_sortedShare : GoodIn wsL_law wsX13_sortedShare := goodIn_r _ [1536, 243, 182, 1537, 385, 386, 387, 5, 388, 389, 390, 391, 392, 179, 1551, 1552, 1553, 1554, 1555, 1556, 1557, 1558, 1559, 1560, 1561, 1562, 1563, 1564] rfl (by decide +kernel)
set_option maxRecDepth 20000 in
theorem gL_law_X13_sortedShare : GoodIn wsL_law (wsV RL 291 RX13 yX13_sortedShare wsX13_sortedShare) := goodIn_app (goodIn_of _ (by decide +kernel)) ggL_law_X13_sortedShare
theorem dL_law_2777 : decode cL_law 2777 = .ok (.invokevirtual 291, 3) := by decide +kernel
theorem dL_law_2780 : decode cL_law 2780 = .ok (.f2d, 1) := by decide +kernel
theorem dL_law_2781 : decode cL_law 2781 = .ok (.dstore 8, 2) := by decide +kernel
theorem dL_law_2783 : decode cL_law 2783 = .ok (.dload 6, 2) := by decide +kernel
theorem dL_law_2785 : decode cL_law 2785 = .ok (.dload 8, 2) := by decide +kernel
theorem dL_law_2787 : decode cL_law 2787 = .ok (.dcmp .l, 1) := by decide +kernel
theorem dL_law_2788 : decode cL_law 2788 = .ok (.ifCond .eq 21, 3) := by decide +kernel
theorem dL_law_2809 : decode cL_law 2809 = .ok (.goto 3, 3) := by decide +kernel
set_option maxHeartbeats 4000000 in
set_option maxRecDepth 100000 in
theorem law_42 {l : Launch} {p : Program} {e : Env} {s : State} {m : MethodId} {below : List Frame} {meth : Method} {c : Code} {bs : Nat} {xs : Nat → Int32} {A : Nat → Prop} {dC : Nat → ClassId} {dI : Nat → Nat → Nat} {g : Nat → ClassId} {a b r1 r2 : Nat → Nat} {ou od : Nat} {Q : State → Prop} {H : Heap} {locs : List Loc} {ls : Array Slot} (C9 : LC l p s m c bs xs A dC dI g a b r1 r2 ou od) (hP : va_P (dC, dI) vwCl (lawL a g ou ++ lawR b r1 r2 g od) H) (hS : va_S A s.heap H locs) (hl : lv_has ls 10 [(5, .int 0), (0, .ref bs), (1, .ref (a 0)), (2, .ref (b 0)), (3, .ref ou), (4, .ref od)]) (hend : ∀ (H : Heap) (locs : List Loc), va_S A s.heap H locs → ∀ (ls : Array Slot), lv_has ls 10 [(5, .int 0), (0, .ref bs)] → W p l e room_1 s m #[Value.ref bs] below meth c H locs 6000 90000 Q (F0 m 2812 ls [])) : W p l e room_1 s m #[Value.ref bs] below meth c H locs 2000 30000 Q (F0 m 2769 ls []) := by
  obtain ⟨hlf, hx, hb, hml, hown, hts, hX, hbl, hbA, hK, hG, hA, hDD⟩ := C9
  refine lv_aload_n hx hb dL_law_2769 rfl (lv_at hl 2 rfl) ?_
  have hPc : va_P (dC, dI) vwCl (offW a g) H := P_l (P_l hP)
  have hDc : va_D A (offW a g) := D_l (D_l hDD)
  have hFc : ∀ q, va_A (offW a g) H.size q → A q := A_all hDc hA hS.1
  have hPm0 : va_P (dC, dI) vwCl (modW b r1 r2 g 0) H := P_l (P_r hP)
  refine va_callf (va_runV (As := []) (rest := []) ⟨hx, hb, hml, hown, hts⟩ (c_X11_sortedShare l dC dI g a H.size) (cwV 0 hts (gX gL_law_X11_sortedShare) rfl rfl rfl (by decide +kernel) ⟨Nat.le_of_ble_eq_true rfl, Nat.le_of_ble_eq_true rfl⟩) ⟨PG_blind, va_recv hK hPc (ci := 13) (q0 := 0) rfl rfl, PG_call hK hG hS hPc hDc hFc⟩ rfl rfl hl.1 rfl (lv_room (Nat.le_of_ble_eq_true rfl)) dL_law_2770 ⟨Nat.le_of_ble_eq_true rfl, Nat.le_of_ble_eq_true rfl⟩) hS (fun q _ h => hFc q h) hFc (fun r_1 u_1 t_1 H_1 L_1 ht_1 hvm_1 hw_1 hB_1 hz_1 hk_1 hS => ?_)
  have hPm : va_P (dC, dI) vwCl (modW b r1 r2 g 0) H_1 := kept_by hPm0 hk_1 (ap_om hDD)
  obtain rfl : r_1 = FP.fdiv (FP.i2f 8) 1090519040 := hw_1
  refine lv_f2d hx hb dL_law_2773 (by unfold vf_n64; decide +kernel) ?_
  refine lv_dstore (lv' := [(6, .double (FP.f2d (FP.fdiv (FP.i2f 8) 1090519040))), (5, .int 0), (0, .ref bs), (1, .ref (a 0)), (2, .ref (b 0)), (3, .ref ou), (4, .ref od)]) hx hb dL_law_2774 hl (by decide) rfl (fun ls hl => ?_)
  refine lv_aload_n hx hb dL_law_2776 rfl (lv_at hl 4 rfl) ?_
  have hDm : va_D A (modW b r1 r2 g 0) := D_l (D_r hDD)
  have hFm : ∀ q, va_A (modW b r1 r2 g 0) H_1.size q → A q := A_all hDm hA hS.1
  refine va_callf (va_runV (As := []) (rest := []) ⟨hx, hb, hml, hown, hts⟩ (c_X13_sortedShare l dC dI g b r1 r2 0 H_1.size) (cwV 0 hts (gX gL_law_X13_sortedShare) rfl rfl rfl (by decide +kernel) ⟨Nat.le_of_ble_eq_true rfl, Nat.le_of_ble_eq_true rfl⟩) ⟨PG_blind, va_recv hK hPm (ci := 15) (q0 := 0) rfl (m_0 b r1 r2 g 0), PG_call hK hG hS hPm hDm hFm⟩ rfl rfl hl.1 rfl (lv_room (Nat.le_of_ble_eq_true rfl)) dL_law_2777 ⟨Nat.le_of_ble_eq_true rfl, Nat.le_of_ble_eq_true rfl⟩) hS (fun q _ h => hFm q h) hFm (fun r_2 u_2 t_2 H_2 L_2 ht_2 hvm_2 hw_2 hB_2 hz_2 hk_2 hS => ?_)
  obtain rfl : r_2 = FP.fdiv (FP.i2f 8) 1090519040 := hw_2 rfl
  refine lv_f2d hx hb dL_law_2780 (by unfold vf_n64; decide +kernel) ?_
  refine lv_dstore (lv' := [(8, .double (FP.f2d (FP.fdiv (FP.i2f 8) 1090519040))), (6, .double (FP.f2d (FP.fdiv (FP.i2f 8) 1090519040))), (5, .int 0), (0, .ref bs), (1, .ref (a 0)), (2, .ref (b 0)), (3, .ref ou), (4, .ref od)]) hx hb dL_law_2781 hl (by decide) rfl (fun ls hl => ?_)
  refine lv_dload hx hb dL_law_2783 (lv_at hl 1 rfl) ?_
  refine lv_dload hx hb dL_law_2785 (lv_at hl 0 rfl) ?_
  refine lv_dcmp hx hb dL_law_2787 ?_
  refine W.eq (g2 := F0 m 2788 ls [.int 0]) (by rw [show Op.cmpValue (FP.dcmp (FP.f2d (FP.fdiv (FP.i2f 8) 1090519040)) (FP.f2d (FP.fdiv (FP.i2f 8) 1090519040))) .l = 0 from by decide +kernel]) ?_
  refine lv_if_eq (tgt := 2809) hx hb dL_law_2788 (by decide) (fun c_1 => ?_) (fun c_1 => absurd (by decide) c_1)
  refine lv_goto (tgt := 2812) hx hb dL_law_2809 (by decide) ?_
  refine W.widen (k := 6000) (n := 90000) (Nat.le_of_ble_eq_true rfl) (Nat.le_of_ble_eq_true rfl) ?_
  exact hend _ _ hS _ (lv_sub hl [2, 3] rfl)
