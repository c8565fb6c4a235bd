theorem dL_law_0 : decode cL_law 0 = .ok (.new 8, 3) := by decide +kernel
theorem dL_law_3 : decode cL_law 3 = .ok (.dup, 1) := by decide +kernel
theorem ggL_law_X11_init_h : GoodIn wsL_law [.code yX11_init cX11_init 2 none] := goodIn_r _ [11] (by decide +kernel) (by decide +kernel)
theorem ggL_law_X11_init_0 : GoodIn wsL_law wsX11_init_r1 := goodIn_r _ [12, 13, 14, 15, 16, 17, 18, 19, 20, 21, 22, 23, 24, 25, 26, 27, 28, 29, 30, 31, 32, 33, 34, 35] (by decide +kernel) (by decide +kernel)
theorem ggL_law_X11_init_1 : GoodIn wsL_law wsX11_init_r2 := goodIn_r _ [36, 37, 38, 39, 40, 41, 42, 43, 44, 45, 46, 47, 48, 49, 50, 51, 52, 53, 54, 55, 56, 57, 58, 59] (by decide +kernel) (by decide +kernel)
theorem ggL_law_X11_init_2 : GoodIn wsL_law wsX11_init_r3 := goodIn_r _ [60, 61, 62, 63, 64, 65, 66, 67, 68, 69, 70, 71, 72, 73, 74, 75, 76, 77, 78, 79, 80, 81, 82, 83] (by decide +kernel) (by decide +kernel)
theorem ggL_law_X11_init_3 : GoodIn wsL_law wsX11_init_r4 := goodIn_r _ [84, 85, 86, 87, 88, 89, 90, 91, 92, 93, 94, 95, 96, 97, 98, 99, 100, 101, 102, 103, 104, 105, 106, 107] (by decide +kernel) (by decide +kernel)
theorem ggL_law_X11_init_4 : GoodIn wsL_law wsX11_init_r5 := goodIn_r _ [108, 109, 110, 111, 112, 113, 114, 115, 116, 117, 118, 119, 120, 121, 122, 123, 124, 125, 126, 127, 128, 129, 130, 131] (by decide +kernel) (by decide +kernel)
theorem ggL_law_X11_init_5 : GoodIn wsL_law wsX11_init_r6 := goodIn_r _ [132, 133, 134, 135, 136, 137, 138, 139, 140, 141, 142, 143, 144, 145, 146, 147, 148, 149, 150, 151, 152, 153, 154, 155] (by decide +kernel) (by decide +kernel)
theorem ggL_law_X11_init_6 : GoodIn wsL_law wsX11_init_r7 := goodIn_r _ [156, 157, 158, 159, 160, 161, 162, 163, 164, 165, 166, 167, 168, 169, 170, 171, 172, 173, 174] (by decide +kernel) (by decide +kernel)
theorem ggL_law_X11_init_7 : GoodIn wsL_law wsX00 := goodIn_r _ [1565, 1566, 1567] (by decide +kernel) (by decide +kernel)
theorem ggL_law_X11_init_8 : GoodIn wsL_law wsX110 := goodIn_r _ [1538, 1539, 1540, 1541, 1542, 1543, 1544, 1545, 1546, 1547, 1548, 1549, 1550] (by decide +kernel) (by decide +kernel)
theorem ggL_law_X11_init_9 : GoodIn wsL_law wsX90 := goodIn_r _ [1568, 1569] (by decide +kernel) (by decide +kernel)
theorem ggL_law_X11_init_10 : GoodIn wsL_law wsX80 := goodIn_r _ [1570, 1571, 1572, 1573, 1574] (by decide +kernel) (by decide +kernel)
theorem ggL_law_X11_init_11 : GoodIn wsL_law wsX60 := goodIn_r _ [1575, 1576, 1577] (by decide +kernel) (by decide +kernel)
theorem ggL_law_X11_init_12 : GoodIn wsL_law wsX70 := goodIn_r _ [1578, 1579, 1580, 1581, 1582] (by decide +kernel) (by decide +kernel)
theorem ggL_law_X11_init_13 : GoodIn wsL_law wsX40 := goodIn_r _ [1583, 1584, 1585, 1586, 1587, 1588, 1589, 1590] (by decide +kernel) (by decide +kernel)
theorem ggL_law_X11_init_14 : GoodIn wsL_law wsX20 := goodIn_r _ [1591, 1592, 1593, 1594, 1595, 1596, 1597, 1598, 1599, 1600, 1601, 1602, 1603, 1604, 1605] (by decide +kernel) (by decide +kernel)
theorem ggL_law_X11_init_15 : GoodIn wsL_law wsX50 := goodIn_r _ [1606, 1607, 1608, 1609, 1610, 1611, 1612, 1613, 1614, 1615, 1616, 1617, 1618] (by decide +kernel) (by decide +kernel)
theorem ggL_law_X11_init_16 : GoodIn wsL_law wsX10 := goodIn_r _ [1619, 1620, 1621, 1622, 1623, 1624, 1625, 1626] (by decide +kernel) (by decide +kernel)
theorem ggL_law_X11_init_17 : GoodIn wsL_law wsX30 := goodIn_r _ [1627, 1628, 1629, 1630, 1631, 1632] (by decide +kernel) (by decide +kernel)
theorem ggL_law_X11_init_18 : GoodIn wsL_law wsX100 := goodIn_r _ [1633, 1634] (by decide +kernel) (by decide +kernel)
set_option maxRecDepth 20000 in
theorem ggL_law_X11_init : GoodIn wsL_law wsX11_init := (fun w h => (List.mem_cons.mp h).elim (fun e => ggL_law_X11_init_h w (List.mem_singleton.mpr e)) (fun h => (goodIn_app (goodIn_app (goodIn_app (goodIn_app (goodIn_app (goodIn_app (goodIn_app (goodIn_app (goodIn_app (goodIn_app (goodIn_app (goodIn_app (goodIn_app ggL_law_X11_init_0 (goodIn_app ggL_law_X11_init_1 (goodIn_app ggL_law_X11_init_2 (goodIn_app ggL_law_X11_init_3 (goodIn_app ggL_law_X11_init_4 (goodIn_app ggL_law_X11_init_5 ggL_law_X11_init_6)))))) ggL_law_X11_init_7) ggL_law_X11_init_8) ggL_law_X11_init_9) ggL_law_X11_init_10) ggL_law_X11_init_11) ggL_law_X11_init_12) ggL_law_X11_init_13) ggL_law_X11_init_14) ggL_law_X11_init_15) ggL_law_X11_init_16) ggL_law_X11_init_17) ggL_law_X11_init_18) w h))
set_option maxRecDepth 20000 in
theorem gL_law_X11_init : GoodIn wsL_law (wsX11_init) := ggL_law_X11_init
theorem dL_law_4 : decode cL_law 4 = .ok (.invokespecial 137, 3) := by decide +kernel
theorem dL_law_7 : decode cL_law 7 = .ok (.astore_n 1, 1) := by decide +kernel
theorem dL_law_8 : decode cL_law 8 = .ok (.new 138, 3) := by decide +kernel
theorem dL_law_11 : decode cL_law 11 = .ok (.dup, 1) := by decide +kernel
set_option maxRecDepth 20000 in
theorem ggL_law_X13_init : GoodIn wsL_law wsX13_init := goodIn_r _ [177, 178, 13, 14, 58, 179, 180, 181, 182, 183, 184, 185, 186, 1551, 1552, 1553, 1554, 1555, 1556, 1557, 1558, 1559, 1560, 1561, 1562, 1563, 1564] (by decide +kernel) (by decide +kernel)
set_option maxRecDepth 20000 in
theorem gL_law_X13_init : GoodIn wsL_law (wsX13_init) := ggL_law_X13_init
theorem dL_law_12 : decode cL_law 12 = .ok (.invokespecial 140, 3) := by decide +kernel
theorem dL_law_15 : decode cL_law 15 = .ok (.astore_n 2, 1) := by decide +kernel
theorem dL_law_16 : decode cL_law 16 = .ok (.iconst 1, 1) := by decide +kernel
theorem dL_law_17 : decode cL_law 17 = .ok (.newarray .long, 2) := by decide +kernel
theorem dL_law_19 : decode cL_law 19 = .ok (.astore_n 3, 1) := by decide +kernel
theorem dL_law_20 : decode cL_law 20 = .ok (.iconst 1, 1) := by decide +kernel
theorem dL_law_21 : decode cL_law 21 = .ok (.newarray .double, 2) := by decide +kernel
theorem dL_law_23 : decode cL_law 23 = .ok (.astore 4, 2) := by decide +kernel
theorem dL_law_25 : decode cL_law 25 = .ok (.iconst 0, 1) := by decide +kernel
theorem dL_law_26 : decode cL_law 26 = .ok (.istore 5, 2) := by decide +kernel
theorem dL_law_37 : decode cL_law 37 = .ok (.aload_n 0, 1) := by decide +kernel
theorem dL_law_38 : decode cL_law 38 = .ok (.iload 5, 2) := by decide +kernel
theorem dL_law_40 : decode cL_law 40 = .ok (.iaload, 1) := by decide +kernel
theorem dL_law_41 : decode cL_law 41 = .ok (.bipush 63, 2) := by decide +kernel
theorem dL_law_43 : decode cL_law 43 = .ok (.iand, 1) := by decide +kernel
set_option maxHeartbeats 8000000 in
set_option maxRecDepth 100000 in
theorem law_body {l : Launch} {p : Program} {e : Env} {s : State} {m : MethodId} {below : List Frame} {meth : Method} {c : Code} {bs L : Nat} {xs : Nat → Int32} {Q : State → Prop} {A : Nat → Prop} {dC : Nat → ClassId} {dI : Nat → Nat → Nat} {g : Nat → ClassId} (hlf : l.stackTraces = false) (hx : p.tables.exec = Jvm.exec) (hb : c.code = code) (hml : c.maxLocals = 10) (hown : s.vm.findClass RL = some m.cls) (hts : ∀ w ∈ wsLX, w.before #[Value.ref bs] s = true) (hL : L ≤ 5) (hX : va_X bs L xs s s.heap) (hbl : bs < s.heap.size) (hK : va_K (dC, dI) vwCl (tyL g) s) (hG : GB g A s) (hA : ∀ q, s.heap.size ≤ q → A q) (hAn : ∀ q, A q → s.heap.size ≤ q) (hret : ∀ (H : Heap) (ls : Array Slot), W p l e room_1 s m #[Value.ref bs] below meth c H [] 600002 7302231 Q (F0 m 2819 ls [.int 1])) : W p l e room_1 s m #[Value.ref bs] below meth c s.heap [] 0 0 Q (entryFrame m ([Value.ref bs] : List Value).toArray 10) := by
  have hbA : ¬ A bs := fun h => absurd (hAn _ h) (Nat.not_le.mpr hbl)
  have hS : va_S A s.heap s.heap [] := va_S.rf
  have hP : va_P (dC, dI) vwCl [] s.heap := fun k q h => by simp at h
  have hD : va_D A [] := ⟨fun i j p q h => by simp at h, fun k q h => by simp at h⟩
  have hl := lv_entry ([.ref bs]) (n := 10) (Nat.le_of_ble_eq_true rfl)
  rw [lg_entry_eq]
  generalize (lg_sl ([.ref bs]) ++ List.replicate (10 - (lg_sl ([.ref bs])).length) Slot.unset).toArray = ls at hl ⊢
  have hl : lv_has ls 10 [(0, .ref bs)] := hl
  have hc8 := hts (.classLink RL 8 RX11) (by decide +kernel)
  have hi11 := hts (.instantiable RX11 13) (by decide +kernel)
  have hn11 := hts (.initialized RX11) (by decide +kernel)
  have hm137 := hts (.methodLink RL 137 yX11_init) (by decide +kernel)
  have hy11 := hts (.instanceMethod yX11_init) (by decide +kernel)
  have hc138 := hts (.classLink RL 138 RX13) (by decide +kernel)
  have hi13 := hts (.instantiable RX13 14) (by decide +kernel)
  have hn13 := hts (.initialized RX13) (by decide +kernel)
  have hm140 := hts (.methodLink RL 140 yX13_init) (by decide +kernel)
  have hy13 := hts (.instanceMethod yX13_init) (by decide +kernel)
  have hal := hts (.arrayClass (newarray.typeOf .long)) (by decide +kernel)
  have had := hts (.arrayClass (newarray.typeOf .double)) (by decide +kernel)
  have hu11 : ∀ w ∈ u_ws RX11 TX11 13, w ∈ wsLX := by decide +kernel
  have hu13 : ∀ w ∈ u_ws RX13 TX13 14, w ∈ wsLX := by decide +kernel
  refine va_new (ci := 13) (fs := [.null, .null, .null, .null, .null, .null, .null, .null, .null, .null, .null, .null, .int 0]) (C := RX11) (T := TX11) (N := 13) hx hb hts hu11 tyX11 tyX11_ok hown hc8 hi11 hn11 hK hP hD hS hA rfl (fun j hj => by rcases (show j = 0 ∨ j = 1 ∨ j = 2 ∨ j = 3 ∨ j = 4 ∨ j = 5 ∨ j = 6 ∨ j = 7 ∨ j = 8 ∨ j = 9 ∨ j = 10 ∨ j = 11 ∨ j = 12 by omega) with rfl | rfl | rfl | rfl | rfl | rfl | rfl | rfl | rfl | rfl | rfl | rfl | rfl <;> rfl) (Nat.le_of_ble_eq_true rfl) (Nat.le_of_ble_eq_true rfl) dL_law_0 (fun t0 H0 hP hD hS => ?_)
  have hP : va_P (dC, dI) vwCl [(t0, .inr (13, [.null, .null, .null, .null, .null, .null, .null, .null, .null, .null, .null, .null, .int 0]))] H0 := hP
  have hD : va_D A [(t0, .inr (13, [.null, .null, .null, .null, .null, .null, .null, .null, .null, .null, .null, .null, .int 0]))] := hD
  refine lv_dup hx hb dL_law_3 rfl ?_
  have hF : ∀ q, va_A [(t0, .inr (13, [.null, .null, .null, .null, .null, .null, .null, .null, .null, .null, .null, .null, .int 0]))] H0.size q → A q := A_all hD hA hS.1
  refine va_callv (va_runI (As := []) (rest := [.ref t0]) ⟨hx, hb, hml, hown, hts⟩ (c_X11_init l dC dI g t0 H0.size) (cwI 0 hts (gX gL_law_X11_init) rfl rfl rfl hn11 hm137 hy11 rfl (by decide +kernel) ⟨Nat.le_of_ble_eq_true rfl, Nat.le_of_ble_eq_true rfl⟩) ⟨PG_blind, PG_call hK hG hS hP hD hF⟩ rfl rfl hl.1 rfl (lv_room (Nat.le_of_ble_eq_true rfl)) dL_law_4 ⟨Nat.le_of_ble_eq_true rfl, Nat.le_of_ble_eq_true rfl⟩) hS (fun q _ h => hF q h) hF (fun a t_1 H_1 L_1 ht_1 hvm_1 hw_1 hB_1 hz_1 hk_1 hS => ?_)
  obtain ⟨ha0, hPo, hDo⟩ := hB_1
  subst ha0
  rw [ht_1] at hPo
  replace hDo := hDo.weaken (fun k q _ h => hF q.1 h)
  refine lv_astore_n (lv' := [(1, .ref (a 0)), (0, .ref bs)]) hx hb dL_law_7 rfl hl (by decide) rfl (fun ls hl => ?_)
  refine va_new (ci := 15) (fs := [.int 0, .null, .null, .int 0, .null, .null, .null, .null, .null, .int 0, .int 0, .int 0, .int 0, .int 0]) (C := RX13) (T := TX13) (N := 14) hx hb hts hu13 tyX13 tyX13_ok hown hc138 hi13 hn13 hK hPo hDo hS hA rfl (fun j hj => by rcases (show j = 0 ∨ j = 1 ∨ j = 2 ∨ j = 3 ∨ j = 4 ∨ j = 5 ∨ j = 6 ∨ j = 7 ∨ j = 8 ∨ j = 9 ∨ j = 10 ∨ j = 11 ∨ j = 12 ∨ j = 13 by omega) with rfl | rfl | rfl | rfl | rfl | rfl | rfl | rfl | rfl | rfl | rfl | rfl | rfl | rfl <;> rfl) (Nat.le_of_ble_eq_true rfl) (Nat.le_of_ble_eq_true rfl) dL_law_8 (fun t1 H1 hP hD hS => ?_)
  have hP : va_P (dC, dI) vwCl (offW a g ++ [(t1, .inr (15, [.int 0, .null, .null, .int 0, .null, .null, .null, .null, .null, .int 0, .int 0, .int 0, .int 0, .int 0]))]) H1 := hP
  have hD : va_D A (offW a g ++ [(t1, .inr (15, [.int 0, .null, .null, .int 0, .null, .null, .null, .null, .null, .int 0, .int 0, .int 0, .int 0, .int 0]))]) := hD
  refine lv_dup hx hb dL_law_11 rfl ?_
  have hPt := P_r hP
  have hDt := D_r hD
  have hF2 : ∀ q, va_A [(t1, .inr (15, [.int 0, .null, .null, .int 0, .null, .null, .null, .null, .null, .int 0, .int 0, .int 0, .int 0, .int 0]))] H1.size q → A q := A_all hDt hA hS.1
  refine va_callv (va_runI (As := []) (rest := [.ref t1]) ⟨hx, hb, hml, hown, hts⟩ (c_X13_init l dC dI g t1 H1.size) (cwI 0 hts (gX gL_law_X13_init) rfl rfl rfl hn13 hm140 hy13 rfl (by decide +kernel) ⟨Nat.le_of_ble_eq_true rfl, Nat.le_of_ble_eq_true rfl⟩) ⟨PG_blind, PG_call hK hG hS hPt hDt hF2⟩ rfl rfl hl.1 rfl (lv_room (Nat.le_of_ble_eq_true rfl)) dL_law_12 ⟨Nat.le_of_ble_eq_true rfl, Nat.le_of_ble_eq_true rfl⟩) hS (fun q _ h => hF2 q h) hF2 (fun u t_2 H_2 L_2 ht_2 hvm_2 hw_2 hB_2 hz_2 hk_2 hS => ?_)
  obtain ⟨b, r1, r2⟩ := u
  obtain ⟨hb0, hPm, hDm⟩ := hB_2
  replace hb0 : b 0 = t1 := hb0
  subst hb0
  rw [ht_2] at hPm
  replace hPm : va_P (dC, dI) vwCl (modW b r1 r2 g 0) H_2 := hPm
  replace hDm : va_D (va_A [(b 0, .inr (15, [.int 0, .null, .null, .int 0, .null, .null, .null, .null, .null, .int 0, .int 0, .int 0, .int 0, .int 0]))] H1.size) (modW b r1 r2 g 0) := hDm
  have hap : ∀ (j k : Nat) (p q : Nat × va_E), (offW a g)[j]? = some p → (modW b r1 r2 g 0)[k]? = some q → p.1 = q.1 → False := by
    intro j k p q hj hk e
    have hlt := (P_l hP j p hj).lt
    rcases hDm.2 k q hk with ⟨i, e2, hi⟩ | h
    · exact D_ap hD hj hi e
    · omega
  have hPo2 : va_P (dC, dI) vwCl (offW a g) H_2 := kept_by (P_l hP) hk_2 (fun j k p q hj hk e => D_ap hD hk hj e.symm)
  have hDm2 : va_D A (modW b r1 r2 g 0) := hDm.weaken (fun k q _ h => hF2 q.1 h)
  have hP2 : va_P (dC, dI) vwCl (offW a g ++ modW b r1 r2 g 0) H_2 := va_P.app hPo2 hPm
  have hD2 : va_D A (offW a g ++ modW b r1 r2 g 0) := va_D.app (D_l hD) hDm2 (fun i j p q hi hj e => hap i j p q hi hj e)
  refine lv_astore_n (lv' := [(2, .ref (b 0)), (1, .ref (a 0)), (0, .ref bs)]) hx hb dL_law_15 rfl hl (by decide) rfl (fun ls hl => ?_)
  refine lv_iconst (v := 1) hx hb dL_law_16 (by decide) ?_
  refine va_newa (atype := .long) (a0 := (1, .inr (.inl (fun _ => 0)))) hx hb hal rfl hK hP2 hD2 hS hA (fun _ => rfl) (by decide) (N' := 1) (by decide) (Nat.le_of_ble_eq_true rfl) (Nat.le_of_ble_eq_true rfl) (Nat.le_of_ble_eq_true rfl) dL_law_17 (fun ou cA3 H_3 hK9 hP hD hS => ?_)
  obtain rfl : g 2 = cA3 := K_one hK9 2 6 rfl rfl
  refine lv_astore_n (lv' := [(3, .ref ou), (2, .ref (b 0)), (1, .ref (a 0)), (0, .ref bs)]) hx hb dL_law_19 rfl hl (by decide) rfl (fun ls hl => ?_)
  refine lv_iconst (v := 1) hx hb dL_law_20 (by decide) ?_
  refine va_newa (atype := .double) (a0 := (1, .inr (.inr (.inr (.inl (fun _ => 0)))))) hx hb had rfl hK hP hD hS hA (fun _ => rfl) (by decide) (N' := 1) (by decide) (Nat.le_of_ble_eq_true rfl) (Nat.le_of_ble_eq_true rfl) (Nat.le_of_ble_eq_true rfl) dL_law_21 (fun od cA4 H_4 hK8 hP hD hS => ?_)
  obtain rfl : g 3 = cA4 := K_one hK8 3 6 rfl rfl
  have hP : va_P (dC, dI) vwCl (lawL a g ou ++ lawR b r1 r2 g od) H_4 := vr_lay hP
  have hD : va_D A (lawL a g ou ++ lawR b r1 r2 g od) := vr_layD hD
  refine lv_astore (lv' := [(4, .ref od), (3, .ref ou), (2, .ref (b 0)), (1, .ref (a 0)), (0, .ref bs)]) hx hb dL_law_23 hl (by decide) rfl (fun ls hl => ?_)
  refine lv_iconst (v := 0) hx hb dL_law_25 (by decide) ?_
  refine lv_istore (lv' := [(5, .int 0), (4, .ref od), (3, .ref ou), (2, .ref (b 0)), (1, .ref (a 0)), (0, .ref bs)]) hx hb dL_law_26 hl (by decide) rfl (fun ls hl => ?_)
  refine W.widen (k := 2000) (n := 30000) (Nat.le_of_ble_eq_true rfl) (Nat.le_of_ble_eq_true rfl) ?_
  refine lv_iload hx hb dL_law_28 (lv_at hl 0 rfl) ?_
  refine lv_aload_n hx hb dL_law_30 rfl (lv_at hl 5 rfl) ?_
  refine va_slen hx hb hX hbl hbA hS dL_law_31 ?_
  refine lv_iconst (v := 5) hx hb dL_law_32 (by decide) ?_
  refine lv_isub hx hb dL_law_33 ?_
  rcases (show L = 0 ∨ L = 1 ∨ L = 2 ∨ L = 3 ∨ L = 4 ∨ L = 5 by omega) with rfl | rfl | rfl | rfl | rfl | rfl
  · refine lv_icmp_gt (tgt := 2818) hx hb dL_law_34 (by decide) (fun _ => ?_) (fun c9 => absurd (by decide) c9)
    exact law_fin hx hb hAn hret hS (Nat.le_of_ble_eq_true rfl) (Nat.le_of_ble_eq_true rfl)
  · refine lv_icmp_gt (tgt := 2818) hx hb dL_law_34 (by decide) (fun _ => ?_) (fun c9 => absurd (by decide) c9)
    exact law_fin hx hb hAn hret hS (Nat.le_of_ble_eq_true rfl) (Nat.le_of_ble_eq_true rfl)
  · refine lv_icmp_gt (tgt := 2818) hx hb dL_law_34 (by decide) (fun _ => ?_) (fun c9 => absurd (by decide) c9)
    exact law_fin hx hb hAn hret hS (Nat.le_of_ble_eq_true rfl) (Nat.le_of_ble_eq_true rfl)
  · refine lv_icmp_gt (tgt := 2818) hx hb dL_law_34 (by decide) (fun _ => ?_) (fun c9 => absurd (by decide) c9)
    exact law_fin hx hb hAn hret hS (Nat.le_of_ble_eq_true rfl) (Nat.le_of_ble_eq_true rfl)
  · refine lv_icmp_gt (tgt := 2818) hx hb dL_law_34 (by decide) (fun _ => ?_) (fun c9 => absurd (by decide) c9)
    exact law_fin hx hb hAn hret hS (Nat.le_of_ble_eq_true rfl) (Nat.le_of_ble_eq_true rfl)
  · refine lv_icmp_gt (tgt := 2818) hx hb dL_law_34 (by decide) (fun c9 => absurd c9 (by decide)) (fun _ => ?_)
    refine lv_aload_n hx hb dL_law_37 rfl (lv_at hl 5 rfl) ?_
    refine lv_iload hx hb dL_law_38 (lv_at hl 0 rfl) ?_
    refine va_sld hx hb hX hbl hbA hS (by unfold vp_in; decide) dL_law_40 ?_
    refine lv_bipush (v := 63) hx hb dL_law_41 (by decide) ?_
    refine lv_iand hx hb dL_law_43 ?_
    exact law_switch _ ⟨hlf, hx, hb, hml, hown, hts, hX, hbl, hbA, hK, hG, hA, hD⟩ hAn hret hP hS (lv_sub hl [0, 5, 4, 3, 2, 1] rfl)
