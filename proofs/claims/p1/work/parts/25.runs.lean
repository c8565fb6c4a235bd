theorem dX13_replaced_0 : decode cX13_replaced 0 = .ok (.new 98, 3) := by decide +kernel
theorem dX13_replaced_3 : decode cX13_replaced 3 = .ok (.dup, 1) := by decide +kernel
set_option maxRecDepth 20000 in
theorem ggX13_replaced_Jx4a65c_init_da8c8 : GoodIn wsX13_replaced wsJx4a65c_init_da8c8 := goodIn_r _ [11, 12, 13, 14, 15, 16, 17, 18, 19, 20, 21, 22, 23, 24, 25, 144, 145, 146] (by decide +kernel) (by decide +kernel)
set_option maxRecDepth 20000 in
theorem gX13_replaced_Jx4a65c_init_da8c8 : GoodIn wsX13_replaced (wsJx4a65c_init_da8c8) := ggX13_replaced_Jx4a65c_init_da8c8
theorem dX13_replaced_4 : decode cX13_replaced 4 = .ok (.invokespecial 100, 3) := by decide +kernel
theorem dX13_replaced_7 : decode cX13_replaced 7 = .ok (.astore 4, 2) := by decide +kernel
theorem dX13_replaced_9 : decode cX13_replaced 9 = .ok (.new 98, 3) := by decide +kernel
theorem dX13_replaced_12 : decode cX13_replaced 12 = .ok (.dup, 1) := by decide +kernel
theorem dX13_replaced_13 : decode cX13_replaced 13 = .ok (.invokespecial 100, 3) := by decide +kernel
theorem dX13_replaced_16 : decode cX13_replaced 16 = .ok (.astore 5, 2) := by decide +kernel
theorem dX13_replaced_18 : decode cX13_replaced 18 = .ok (.new 98, 3) := by decide +kernel
theorem dX13_replaced_21 : decode cX13_replaced 21 = .ok (.dup, 1) := by decide +kernel
theorem dX13_replaced_22 : decode cX13_replaced 22 = .ok (.invokespecial 100, 3) := by decide +kernel
theorem dX13_replaced_25 : decode cX13_replaced 25 = .ok (.astore 6, 2) := by decide +kernel
theorem dX13_replaced_27 : decode cX13_replaced 27 = .ok (.new 98, 3) := by decide +kernel
theorem dX13_replaced_30 : decode cX13_replaced 30 = .ok (.dup, 1) := by decide +kernel
theorem dX13_replaced_31 : decode cX13_replaced 31 = .ok (.invokespecial 100, 3) := by decide +kernel
theorem dX13_replaced_34 : decode cX13_replaced 34 = .ok (.astore 7, 2) := by decide +kernel
theorem dX13_replaced_36 : decode cX13_replaced 36 = .ok (.iconst 0, 1) := by decide +kernel
theorem dX13_replaced_37 : decode cX13_replaced 37 = .ok (.istore 8, 2) := by decide +kernel
theorem dX13_replaced_39 : decode cX13_replaced 39 = .ok (.iload 8, 2) := by decide +kernel
theorem dX13_replaced_41 : decode cX13_replaced 41 = .ok (.iload_n 3, 1) := by decide +kernel
theorem dX13_replaced_42 : decode cX13_replaced 42 = .ok (.aload_n 1, 1) := by decide +kernel
theorem dX13_replaced_43 : decode cX13_replaced 43 = .ok (.arraylength, 1) := by decide +kernel
theorem dX13_replaced_44 : decode cX13_replaced 44 = .ok (.invokestatic 113, 3) := by decide +kernel
theorem dX13_replaced_47 : decode cX13_replaced 47 = .ok (.if_icmp .ge 25, 3) := by decide +kernel
theorem dX13_replaced_72 : decode cX13_replaced 72 = .ok (.aload 5, 2) := by decide +kernel
set_option maxRecDepth 20000 in
theorem ggX13_replaced_Jx4a65c_isEmpty_aae02 : GoodIn wsX13_replaced wsJx4a65c_isEmpty_aae02 := goodIn_r _ [96, 49, 144, 145, 146] (by decide +kernel) (by decide +kernel)
set_option maxRecDepth 20000 in
theorem gX13_replaced_Jx4a65c_isEmpty_aae02_f123Jx4a65c : GoodIn wsX13_replaced (va_wsF RX13 123 RJx4a65c ⟨"java/util/List", "isEmpty", "()Z"⟩ yJx4a65c_isEmpty_aae02 wsJx4a65c_isEmpty_aae02) := goodIn_app (goodIn_of _ (by decide +kernel)) ggX13_replaced_Jx4a65c_isEmpty_aae02
theorem dX13_replaced_74 : decode cX13_replaced 74 = .ok (.invokeinterface 123 1, 5) := by decide +kernel
theorem dX13_replaced_79 : decode cX13_replaced 79 = .ok (.ifCond .ne 144, 3) := by decide +kernel
theorem dX13_replaced_223 : decode cX13_replaced 223 = .ok (.aload 4, 2) := by decide +kernel
theorem dX13_replaced_225 : decode cX13_replaced 225 = .ok (.areturn, 1) := by decide +kernel
theorem dX13_runsOf_0 : decode cX13_runsOf 0 = .ok (.aload_n 2, 1) := by decide +kernel
theorem dX13_runsOf_1 : decode cX13_runsOf 1 = .ok (.iconst 1, 1) := by decide +kernel
theorem dX13_runsOf_2 : decode cX13_runsOf 2 = .ok (.iaload, 1) := by decide +kernel
theorem dX13_runsOf_3 : decode cX13_runsOf 3 = .ok (.iconst 1, 1) := by decide +kernel
theorem dX13_runsOf_4 : decode cX13_runsOf 4 = .ok (.if_icmp .ne 15, 3) := by decide +kernel
theorem dX13_runsOf_19 : decode cX13_runsOf 19 = .ok (.new 98, 3) := by decide +kernel
theorem dX13_runsOf_22 : decode cX13_runsOf 22 = .ok (.dup, 1) := by decide +kernel
set_option maxRecDepth 20000 in
theorem ggX13_runsOf_Jx4a65c_init_da8c8 : GoodIn wsX13_runsOf wsJx4a65c_init_da8c8 := goodIn_r _ [16, 17, 18, 19, 20, 21, 22, 23, 24, 25, 26, 27, 28, 29, 30, 155, 156, 157] (by decide +kernel) (by decide +kernel)
set_option maxRecDepth 20000 in
theorem gX13_runsOf_Jx4a65c_init_da8c8 : GoodIn wsX13_runsOf (wsJx4a65c_init_da8c8) := ggX13_runsOf_Jx4a65c_init_da8c8
theorem dX13_runsOf_23 : decode cX13_runsOf 23 = .ok (.invokespecial 100, 3) := by decide +kernel
theorem dX13_runsOf_26 : decode cX13_runsOf 26 = .ok (.astore_n 3, 1) := by decide +kernel
theorem dX13_runsOf_27 : decode cX13_runsOf 27 = .ok (.iconst 0, 1) := by decide +kernel
theorem dX13_runsOf_28 : decode cX13_runsOf 28 = .ok (.istore 4, 2) := by decide +kernel
theorem dX13_runsOf_30 : decode cX13_runsOf 30 = .ok (.iload 4, 2) := by decide +kernel
theorem dX13_runsOf_32 : decode cX13_runsOf 32 = .ok (.aload_n 1, 1) := by decide +kernel
theorem dX13_runsOf_33 : decode cX13_runsOf 33 = .ok (.arraylength, 1) := by decide +kernel
theorem dX13_runsOf_34 : decode cX13_runsOf 34 = .ok (.if_icmp .ge 97, 3) := by decide +kernel
theorem dX13_runsOf_131 : decode cX13_runsOf 131 = .ok (.aload_n 3, 1) := by decide +kernel
theorem dX13_runsOf_132 : decode cX13_runsOf 132 = .ok (.areturn, 1) := by decide +kernel
theorem dX13_runsOf_7 : decode cX13_runsOf 7 = .ok (.aload_n 0, 1) := by decide +kernel
theorem dX13_runsOf_8 : decode cX13_runsOf 8 = .ok (.aload_n 1, 1) := by decide +kernel
theorem dX13_runsOf_9 : decode cX13_runsOf 9 = .ok (.aload_n 2, 1) := by decide +kernel
theorem dX13_runsOf_10 : decode cX13_runsOf 10 = .ok (.iconst 0, 1) := by decide +kernel
theorem dX13_runsOf_11 : decode cX13_runsOf 11 = .ok (.iaload, 1) := by decide +kernel
theorem dX13_runsOf_12 : decode cX13_runsOf 12 = .ok (.aload_n 2, 1) := by decide +kernel
theorem dX13_runsOf_13 : decode cX13_runsOf 13 = .ok (.iconst 2, 1) := by decide +kernel
theorem dX13_runsOf_14 : decode cX13_runsOf 14 = .ok (.iaload, 1) := by decide +kernel
set_option maxRecDepth 20000 in
theorem ggX13_runsOf_X13_replaced : GoodIn wsX13_runsOf wsX13_replaced := goodIn_r _ [8, 1, 2, 3, 9, 10, 11, 12, 13, 14, 15, 16, 17, 18, 19, 20, 21, 22, 23, 24, 25, 26, 27, 28, 29, 30, 31, 32, 33, 34, 35, 36, 37, 38, 39, 40, 41, 42, 43, 44, 45, 46, 47, 48, 49, 50, 51, 52, 53, 54, 55, 56, 57, 58, 59, 60, 61, 62, 63, 64, 65, 66, 67, 68, 69, 70, 71, 72, 73, 74, 75, 76, 77, 78, 79, 80, 81, 82, 83, 84, 85, 86, 87, 88, 89, 90, 91, 92, 93, 94, 95, 96, 97, 98, 99, 100, 101, 102, 103, 104, 7, 105, 106, 107, 108, 109, 110, 111, 112, 113, 114, 115, 116, 117, 118, 119, 120, 121, 122, 123, 124, 125, 126, 127, 128, 129, 130, 131, 132, 133, 134, 135, 136, 137, 138, 139, 140, 141, 142, 143, 144, 145, 146, 147, 155, 156, 157, 158, 159, 160, 161, 162, 163, 164, 165, 166, 167, 168, 169, 170, 171, 172] (by decide +kernel) (by decide +kernel)
set_option maxRecDepth 20000 in
theorem gX13_runsOf_X13_replaced : GoodIn wsX13_runsOf (wsV RX13 94 RX13 yX13_replaced wsX13_replaced) := goodIn_app (goodIn_of _ (by decide +kernel)) ggX13_runsOf_X13_replaced
theorem dX13_runsOf_15 : decode cX13_runsOf 15 = .ok (.invokevirtual 94, 3) := by decide +kernel
theorem dX13_runsOf_18 : decode cX13_runsOf 18 = .ok (.areturn, 1) := by decide +kernel
set_option maxHeartbeats 4000000 in
set_option maxRecDepth 100000 in
theorem c_X13_replaced (l : Launch) (dC : Nat → ClassId) (dI : Nat → Nat → Nat) (g : Nat → ClassId) (mo : Nat) (tp : Nat) (fr : Nat → Int32) (od : Int32) (sz : Nat) : Met l yX13_replaced wsX13_replaced ({ frames := 4, cells := 4, slots := 12, locals := 72 }) (va_Pc [.ref mo, .ref tp, .int od, .int 4] (PG (dC, dI) g [(tp, .inl (g 0, 0, .inl fr))] sz)) (va_Qq (fun (r : Option Nat) (u : Nat → Nat) => r = some (u 0)) (fun (u : Nat → Nat) t9 => va_P (dC, dI) vwCl [(tp, .inl (g 0, 0, .inl fr)), ((u 0), .inr (1, [.int 0, .ref (g 10), .int 0]))] t9.heap ∧ va_D (va_A [(tp, .inl (g 0, 0, .inl fr))] sz) [(tp, .inl (g 0, 0, .inl fr)), ((u 0), .inr (1, [.int 0, .ref (g 10), .int 0]))]) (va_A [(tp, .inl (g 0, 0, .inl fr))] sz)) 4 12 (va_A [(tp, .inl (g 0, 0, .inl fr))] sz) := by
  refine Met.ofW (cc := cX13_replaced) (maxL := 11) (ret := (some (.object "java/util/List"))) (by decide) rfl ?_
  intro p e s m args below meth c s₁ B hml hv
  obtain ⟨rfl, hsz, hP, hK, hD0, hG⟩ := hv
  have hx := B.exec
  have hb := B.bytes
  have hr := B.returns
  have hts := atoms_spec (ws := wsX13_replaced) B.pre
  have hown : s.vm.findClass RX13 = some m.cls := findClass_of_methodNamed B.named
  have hlocks := B.notSynchronized
  subst hsz
  have hD := hD0.self (sz := s.heap.size)
  generalize hAe : va_A [(tp, .inl (g 0, 0, .inl fr))] s.heap.size = A at hD hG ⊢
  have hA : ∀ q : Nat, s.heap.size ≤ q → A q := fun q h => by rw [← hAe]; exact Or.inr h
  have hS : va_S A s.heap s.heap [] := va_S.rf
  have hl := lv_entry ([.ref mo, .ref tp, .int od, .int 4]) (n := 11) (Nat.le_of_ble_eq_true rfl)
  rw [lg_entry_eq]
  generalize (lg_sl ([.ref mo, .ref tp, .int od, .int 4]) ++ List.replicate (11 - (lg_sl ([.ref mo, .ref tp, .int od, .int 4])).length) Slot.unset).toArray = ls at hl ⊢
  have hl : lv_has ls 11 [(0, .ref mo), (1, .ref tp), (2, .int od), (3, .int 4)] := hl
  have hcl98 := hts (Cond.classLink RX13 98 RJx4a65c) (by decide +kernel)
  have hinJx4a65c := hts (Cond.instantiable RJx4a65c 3) (by decide +kernel)
  have hiniJx4a65c := hts (Cond.initialized RJx4a65c) (by decide +kernel)
  have hiJx4a65c : ∀ w ∈ u_ws RJx4a65c TJx4a65c 3, w ∈ wsX13_replaced := by decide +kernel
  have himJx4a65c_init_da8c8 := hts (Cond.instanceMethod yJx4a65c_init_da8c8) (by decide +kernel)
  have hml100 := hts (Cond.methodLink RX13 100 yJx4a65c_init_da8c8) (by decide +kernel)
  have hmmin113_0 := hts (Cond.methodLink RX13 113 Lib.Math.min.name) (by decide +kernel)
  have hmmin113_1 := hts (Cond.static Lib.Math.min.name) (by decide +kernel)
  have hmmin113_2 := hts (Cond.initialized "java/lang/Math") (by decide +kernel)
  have hmmin113_3 := hts (Cond.code Lib.Math.min.name Lib.Math.min.code 2 (some .int)) (by decide +kernel)
  refine va_new (ci := 1) (fs := [.int 0, .null, .int 0]) (C := RJx4a65c) (T := TJx4a65c) (N := 3) hx hb hts hiJx4a65c tyJx4a65c tyJx4a65c_ok hown hcl98 hinJx4a65c hiniJx4a65c hK hP hD hS hA rfl (fun j hj => by rcases (show j = 0 ∨ j = 1 ∨ j = 2 by omega) with rfl | rfl | rfl <;> rfl) (Nat.le_of_ble_eq_true rfl) (Nat.le_of_ble_eq_true rfl) dX13_replaced_0 (fun q_1 H_2 hP hD hS => ?_)
  have hP : va_P (dC, dI) vwCl [(tp, .inl (g 0, 0, .inl fr)), (q_1, .inr (1, [.int 0, .null, .int 0]))] H_2 := hP
  have hD : va_D A [(tp, .inl (g 0, 0, .inl fr)), (q_1, .inr (1, [.int 0, .null, .int 0]))] := hD
  refine W.widen (k := 1) (n := 3) (by omega) (by omega) ?_
  refine lv_dup hx hb dX13_replaced_3 rfl ?_
  have hPc := hP.sub (ws' := [(q_1, .inr (1, [.int 0, .null, .int 0]))]) [1] rfl
  have hDc := hD.sub (ws' := [(q_1, .inr (1, [.int 0, .null, .int 0]))]) [1] (by decide) rfl
  have hFc := va_free (wc := [(q_1, .inr (1, [.int 0, .null, .int 0]))]) hD hS hA [1] rfl
  refine va_callv (va_runI (As := []) (rest := [.ref q_1]) ⟨hx, hb, hml, hown, hts⟩ (c_Jx4a65c_init_da8c8 l dC dI g q_1  H_2.size) (cwI 0 hts gX13_replaced_Jx4a65c_init_da8c8 rfl rfl rfl hiniJx4a65c hml100 himJx4a65c_init_da8c8 rfl (by decide +kernel) ⟨Nat.le_of_ble_eq_true rfl, Nat.le_of_ble_eq_true rfl⟩) ⟨PG_blind, PG_call hK hG hS hPc hDc hFc⟩ rfl rfl hl.1 rfl (lv_room (Nat.le_of_ble_eq_true rfl)) dX13_replaced_4 ⟨Nat.le_of_ble_eq_true rfl, Nat.le_of_ble_eq_true rfl⟩) hS (fun q _ h => hFc q h) hFc (fun u_3 t_3 H_3 L_3 ht_3 hvm_3 hw_3 hB_3 hz_3 hk_3 hS => ?_)
  obtain ⟨hP1, hD1⟩ := hB_3
  rw [ht_3] at hP1
  obtain ⟨hP, hD⟩ := va_join (wr := [(tp, .inl (g 0, 0, .inl fr))]) (w1 := [(q_1, .inr (1, [.int 0, .ref (g 10), .int 0]))]) hP hD [1] [0] rfl rfl (by decide) (by decide) hk_3 hFc hP1 hD1
  have hP : va_P (dC, dI) vwCl [(tp, .inl (g 0, 0, .inl fr)), (q_1, .inr (1, [.int 0, .ref (g 10), .int 0]))] H_3 := hP
  have hD : va_D A [(tp, .inl (g 0, 0, .inl fr)), (q_1, .inr (1, [.int 0, .ref (g 10), .int 0]))] := hD
  refine lv_astore (lv' := [(4, .ref q_1), (0, .ref mo), (1, .ref tp), (2, .int od), (3, .int 4)]) hx hb dX13_replaced_7 hl (by decide) rfl (fun ls hl => ?_)
  refine va_new (ci := 1) (fs := [.int 0, .null, .int 0]) (C := RJx4a65c) (T := TJx4a65c) (N := 3) hx hb hts hiJx4a65c tyJx4a65c tyJx4a65c_ok hown hcl98 hinJx4a65c hiniJx4a65c hK hP hD hS hA rfl (fun j hj => by rcases (show j = 0 ∨ j = 1 ∨ j = 2 by omega) with rfl | rfl | rfl <;> rfl) (Nat.le_of_ble_eq_true rfl) (Nat.le_of_ble_eq_true rfl) dX13_replaced_9 (fun q_4 H_5 hP hD hS => ?_)
  have hP : va_P (dC, dI) vwCl [(tp, .inl (g 0, 0, .inl fr)), (q_1, .inr (1, [.int 0, .ref (g 10), .int 0])), (q_4, .inr (1, [.int 0, .null, .int 0]))] H_5 := hP
  have hD : va_D A [(tp, .inl (g 0, 0, .inl fr)), (q_1, .inr (1, [.int 0, .ref (g 10), .int 0])), (q_4, .inr (1, [.int 0, .null, .int 0]))] := hD
  refine W.widen (k := 2) (n := 6) (by omega) (by omega) ?_
  refine lv_dup hx hb dX13_replaced_12 rfl ?_
  have hPc := hP.sub (ws' := [(q_4, .inr (1, [.int 0, .null, .int 0]))]) [2] rfl
  have hDc := hD.sub (ws' := [(q_4, .inr (1, [.int 0, .null, .int 0]))]) [2] (by decide) rfl
  have hFc := va_free (wc := [(q_4, .inr (1, [.int 0, .null, .int 0]))]) hD hS hA [2] rfl
  refine va_callv (va_runI (As := []) (rest := [.ref q_4]) ⟨hx, hb, hml, hown, hts⟩ (c_Jx4a65c_init_da8c8 l dC dI g q_4  H_5.size) (cwI 0 hts gX13_replaced_Jx4a65c_init_da8c8 rfl rfl rfl hiniJx4a65c hml100 himJx4a65c_init_da8c8 rfl (by decide +kernel) ⟨Nat.le_of_ble_eq_true rfl, Nat.le_of_ble_eq_true rfl⟩) ⟨PG_blind, PG_call hK hG hS hPc hDc hFc⟩ rfl rfl hl.1 rfl (lv_room (Nat.le_of_ble_eq_true rfl)) dX13_replaced_13 ⟨Nat.le_of_ble_eq_true rfl, Nat.le_of_ble_eq_true rfl⟩) hS (fun q _ h => hFc q h) hFc (fun u_6 t_6 H_6 L_6 ht_6 hvm_6 hw_6 hB_6 hz_6 hk_6 hS => ?_)
  obtain ⟨hP1, hD1⟩ := hB_6
  rw [ht_6] at hP1
  obtain ⟨hP, hD⟩ := va_join (wr := [(tp, .inl (g 0, 0, .inl fr)), (q_1, .inr (1, [.int 0, .ref (g 10), .int 0]))]) (w1 := [(q_4, .inr (1, [.int 0, .ref (g 10), .int 0]))]) hP hD [2] [0, 1] rfl rfl (by decide) (by decide) hk_6 hFc hP1 hD1
  have hP : va_P (dC, dI) vwCl [(tp, .inl (g 0, 0, .inl fr)), (q_1, .inr (1, [.int 0, .ref (g 10), .int 0])), (q_4, .inr (1, [.int 0, .ref (g 10), .int 0]))] H_6 := hP
  have hD : va_D A [(tp, .inl (g 0, 0, .inl fr)), (q_1, .inr (1, [.int 0, .ref (g 10), .int 0])), (q_4, .inr (1, [.int 0, .ref (g 10), .int 0]))] := hD
  refine lv_astore (lv' := [(5, .ref q_4), (4, .ref q_1), (0, .ref mo), (1, .ref tp), (2, .int od), (3, .int 4)]) hx hb dX13_replaced_16 hl (by decide) rfl (fun ls hl => ?_)
  refine va_new (ci := 1) (fs := [.int 0, .null, .int 0]) (C := RJx4a65c) (T := TJx4a65c) (N := 3) hx hb hts hiJx4a65c tyJx4a65c tyJx4a65c_ok hown hcl98 hinJx4a65c hiniJx4a65c hK hP hD hS hA rfl (fun j hj => by rcases (show j = 0 ∨ j = 1 ∨ j = 2 by omega) with rfl | rfl | rfl <;> rfl) (Nat.le_of_ble_eq_true rfl) (Nat.le_of_ble_eq_true rfl) dX13_replaced_18 (fun q_7 H_8 hP hD hS => ?_)
  have hP : va_P (dC, dI) vwCl [(tp, .inl (g 0, 0, .inl fr)), (q_1, .inr (1, [.int 0, .ref (g 10), .int 0])), (q_4, .inr (1, [.int 0, .ref (g 10), .int 0])), (q_7, .inr (1, [.int 0, .null, .int 0]))] H_8 := hP
  have hD : va_D A [(tp, .inl (g 0, 0, .inl fr)), (q_1, .inr (1, [.int 0, .ref (g 10), .int 0])), (q_4, .inr (1, [.int 0, .ref (g 10), .int 0])), (q_7, .inr (1, [.int 0, .null, .int 0]))] := hD
  refine W.widen (k := 3) (n := 9) (by omega) (by omega) ?_
  refine lv_dup hx hb dX13_replaced_21 rfl ?_
  have hPc := hP.sub (ws' := [(q_7, .inr (1, [.int 0, .null, .int 0]))]) [3] rfl
  have hDc := hD.sub (ws' := [(q_7, .inr (1, [.int 0, .null, .int 0]))]) [3] (by decide) rfl
  have hFc := va_free (wc := [(q_7, .inr (1, [.int 0, .null, .int 0]))]) hD hS hA [3] rfl
  refine va_callv (va_runI (As := []) (rest := [.ref q_7]) ⟨hx, hb, hml, hown, hts⟩ (c_Jx4a65c_init_da8c8 l dC dI g q_7  H_8.size) (cwI 0 hts gX13_replaced_Jx4a65c_init_da8c8 rfl rfl rfl hiniJx4a65c hml100 himJx4a65c_init_da8c8 rfl (by decide +kernel) ⟨Nat.le_of_ble_eq_true rfl, Nat.le_of_ble_eq_true rfl⟩) ⟨PG_blind, PG_call hK hG hS hPc hDc hFc⟩ rfl rfl hl.1 rfl (lv_room (Nat.le_of_ble_eq_true rfl)) dX13_replaced_22 ⟨Nat.le_of_ble_eq_true rfl, Nat.le_of_ble_eq_true rfl⟩) hS (fun q _ h => hFc q h) hFc (fun u_9 t_9 H_9 L_9 ht_9 hvm_9 hw_9 hB_9 hz_9 hk_9 hS => ?_)
  obtain ⟨hP1, hD1⟩ := hB_9
  rw [ht_9] at hP1
  obtain ⟨hP, hD⟩ := va_join (wr := [(tp, .inl (g 0, 0, .inl fr)), (q_1, .inr (1, [.int 0, .ref (g 10), .int 0])), (q_4, .inr (1, [.int 0, .ref (g 10), .int 0]))]) (w1 := [(q_7, .inr (1, [.int 0, .ref (g 10), .int 0]))]) hP hD [3] [0, 1, 2] rfl rfl (by decide) (by decide) hk_9 hFc hP1 hD1
  have hP : va_P (dC, dI) vwCl [(tp, .inl (g 0, 0, .inl fr)), (q_1, .inr (1, [.int 0, .ref (g 10), .int 0])), (q_4, .inr (1, [.int 0, .ref (g 10), .int 0])), (q_7, .inr (1, [.int 0, .ref (g 10), .int 0]))] H_9 := hP
  have hD : va_D A [(tp, .inl (g 0, 0, .inl fr)), (q_1, .inr (1, [.int 0, .ref (g 10), .int 0])), (q_4, .inr (1, [.int 0, .ref (g 10), .int 0])), (q_7, .inr (1, [.int 0, .ref (g 10), .int 0]))] := hD
  refine lv_astore (lv' := [(6, .ref q_7), (5, .ref q_4), (4, .ref q_1), (0, .ref mo), (1, .ref tp), (2, .int od), (3, .int 4)]) hx hb dX13_replaced_25 hl (by decide) rfl (fun ls hl => ?_)
  refine va_new (ci := 1) (fs := [.int 0, .null, .int 0]) (C := RJx4a65c) (T := TJx4a65c) (N := 3) hx hb hts hiJx4a65c tyJx4a65c tyJx4a65c_ok hown hcl98 hinJx4a65c hiniJx4a65c hK hP hD hS hA rfl (fun j hj => by rcases (show j = 0 ∨ j = 1 ∨ j = 2 by omega) with rfl | rfl | rfl <;> rfl) (Nat.le_of_ble_eq_true rfl) (Nat.le_of_ble_eq_true rfl) dX13_replaced_27 (fun q_10 H_11 hP hD hS => ?_)
  have hP : va_P (dC, dI) vwCl [(tp, .inl (g 0, 0, .inl fr)), (q_1, .inr (1, [.int 0, .ref (g 10), .int 0])), (q_4, .inr (1, [.int 0, .ref (g 10), .int 0])), (q_7, .inr (1, [.int 0, .ref (g 10), .int 0])), (q_10, .inr (1, [.int 0, .null, .int 0]))] H_11 := hP
  have hD : va_D A [(tp, .inl (g 0, 0, .inl fr)), (q_1, .inr (1, [.int 0, .ref (g 10), .int 0])), (q_4, .inr (1, [.int 0, .ref (g 10), .int 0])), (q_7, .inr (1, [.int 0, .ref (g 10), .int 0])), (q_10, .inr (1, [.int 0, .null, .int 0]))] := hD
  refine W.widen (k := 4) (n := 12) (by omega) (by omega) ?_
  refine lv_dup hx hb dX13_replaced_30 rfl ?_
  have hPc := hP.sub (ws' := [(q_10, .inr (1, [.int 0, .null, .int 0]))]) [4] rfl
  have hDc := hD.sub (ws' := [(q_10, .inr (1, [.int 0, .null, .int 0]))]) [4] (by decide) rfl
  have hFc := va_free (wc := [(q_10, .inr (1, [.int 0, .null, .int 0]))]) hD hS hA [4] rfl
  refine va_callv (va_runI (As := []) (rest := [.ref q_10]) ⟨hx, hb, hml, hown, hts⟩ (c_Jx4a65c_init_da8c8 l dC dI g q_10  H_11.size) (cwI 0 hts gX13_replaced_Jx4a65c_init_da8c8 rfl rfl rfl hiniJx4a65c hml100 himJx4a65c_init_da8c8 rfl (by decide +kernel) ⟨Nat.le_of_ble_eq_true rfl, Nat.le_of_ble_eq_true rfl⟩) ⟨PG_blind, PG_call hK hG hS hPc hDc hFc⟩ rfl rfl hl.1 rfl (lv_room (Nat.le_of_ble_eq_true rfl)) dX13_replaced_31 ⟨Nat.le_of_ble_eq_true rfl, Nat.le_of_ble_eq_true rfl⟩) hS (fun q _ h => hFc q h) hFc (fun u_12 t_12 H_12 L_12 ht_12 hvm_12 hw_12 hB_12 hz_12 hk_12 hS => ?_)
  obtain ⟨hP1, hD1⟩ := hB_12
  rw [ht_12] at hP1
  obtain ⟨hP, hD⟩ := va_join (wr := [(tp, .inl (g 0, 0, .inl fr)), (q_1, .inr (1, [.int 0, .ref (g 10), .int 0])), (q_4, .inr (1, [.int 0, .ref (g 10), .int 0])), (q_7, .inr (1, [.int 0, .ref (g 10), .int 0]))]) (w1 := [(q_10, .inr (1, [.int 0, .ref (g 10), .int 0]))]) hP hD [4] [0, 1, 2, 3] rfl rfl (by decide) (by decide) hk_12 hFc hP1 hD1
  have hP : va_P (dC, dI) vwCl [(tp, .inl (g 0, 0, .inl fr)), (q_1, .inr (1, [.int 0, .ref (g 10), .int 0])), (q_4, .inr (1, [.int 0, .ref (g 10), .int 0])), (q_7, .inr (1, [.int 0, .ref (g 10), .int 0])), (q_10, .inr (1, [.int 0, .ref (g 10), .int 0]))] H_12 := hP
  have hD : va_D A [(tp, .inl (g 0, 0, .inl fr)), (q_1, .inr (1, [.int 0, .ref (g 10), .int 0])), (q_4, .inr (1, [.int 0, .ref (g 10), .int 0])), (q_7, .inr (1, [.int 0, .ref (g 10), .int 0])), (q_10, .inr (1, [.int 0, .ref (g 10), .int 0]))] := hD
  refine lv_astore (lv' := [(7, .ref q_10), (6, .ref q_7), (5, .ref q_4), (4, .ref q_1), (0, .ref mo), (1, .ref tp), (2, .int od), (3, .int 4)]) hx hb dX13_replaced_34 hl (by decide) rfl (fun ls hl => ?_)
  refine lv_iconst (v := 0) hx hb dX13_replaced_36 (by decide) ?_
  refine lv_istore (lv' := [(8, .int 0), (7, .ref q_10), (6, .ref q_7), (5, .ref q_4), (4, .ref q_1), (0, .ref mo), (1, .ref tp), (2, .int od), (3, .int 4)]) hx hb dX13_replaced_37 hl (by decide) rfl (fun ls hl => ?_)
  refine lv_iload hx hb dX13_replaced_39 (lv_at hl 0 rfl) ?_
  refine lv_iload_n hx hb dX13_replaced_41 rfl (lv_at hl 8 rfl) ?_
  refine lv_aload_n hx hb dX13_replaced_42 rfl (lv_at hl 6 rfl) ?_
  refine va_alen hx hb hK hP 0 0 rfl rfl (v := 0) rfl dX13_replaced_43 ?_
  refine va_mmin hx hb (hml.trans hl.1.symm) hown hmmin113_0 hmmin113_1 hmmin113_2 hmmin113_3 (Nat.le_of_ble_eq_true rfl) (Nat.le_of_ble_eq_true rfl) (Nat.le_of_ble_eq_true rfl) (Nat.le_of_ble_eq_true rfl) dX13_replaced_44 ?_
  refine lv_topi (fun x_13 ex_13 => ?_)
  obtain rfl : x_13 = 0 := ex_13.trans (by decide)
  refine lv_icmp_ge (tgt := 72) hx hb dX13_replaced_47 (by decide) (fun c_14 => ?_) (fun c_14 => absurd (by decide) c_14)
  refine lv_aload hx hb dX13_replaced_72 (lv_at hl 3 rfl) ?_
  refine va_callFi (va_runF (As := []) (rest := []) (hK.1 1 _ rfl).2 ⟨hx, hb, hml, hown, hts⟩ (c_Jx4a65c_isEmpty_aae02_0 l dC dI g [(tp, .inl (g 0, 0, .inl fr)), (q_1, .inr (1, [.int 0, .ref (g 10), .int 0])), (q_4, .inr (1, [.int 0, .ref (g 10), .int 0])), (q_7, .inr (1, [.int 0, .ref (g 10), .int 0])), (q_10, .inr (1, [.int 0, .ref (g 10), .int 0]))] q_4 0 (some (g 10)) 2 rfl  H_12.size) (va_cwF 0 hts gX13_replaced_Jx4a65c_isEmpty_aae02_f123Jx4a65c rfl rfl rfl (fw_0 hG) (by decide +kernel) ⟨Nat.le_of_ble_eq_true rfl, Nat.le_of_ble_eq_true rfl⟩) ⟨PG_blind, va_recv hK hP (ci := 1) (q0 := 2) rfl rfl, PG_call hK hG hS hP hD (A_all hD hA hS.1)⟩ rfl rfl hl.1 rfl (lv_room (Nat.le_of_ble_eq_true rfl)) dX13_replaced_74 ⟨Nat.le_of_ble_eq_true rfl, Nat.le_of_ble_eq_true rfl⟩) hS (fun q _ h => (A_all hD hA hS.1) q h) (A_all hD hA hS.1) (fun r_15 u_15 t_15 H_15 L_15 ht_15 hvm_15 hw_15 hB_15 hz_15 hk_15 hS => ?_)
  replace hB_15 := (show va_P (dC, dI) vwCl [(tp, .inl (g 0, 0, .inl fr)), (q_1, .inr (1, [.int 0, .ref (g 10), .int 0])), (q_4, .inr (1, [.int 0, .ref (g 10), .int 0])), (q_7, .inr (1, [.int 0, .ref (g 10), .int 0])), (q_10, .inr (1, [.int 0, .ref (g 10), .int 0]))] t_15.heap from hB_15)
  rw [ht_15] at hB_15
  have hP := hB_15
  obtain rfl : r_15 = 1 := hw_15
  refine lv_if_ne (tgt := 223) hx hb dX13_replaced_79 (by decide) (fun c_16 => ?_) (fun c_16 => absurd c_16 (by decide))
  refine lv_aload hx hb dX13_replaced_223 (lv_at hl 4 rfl) ?_
  have hP9 := hP.sub (ws' := [(tp, .inl (g 0, 0, .inl fr)), (q_1, .inr (1, [.int 0, .ref (g 10), .int 0]))]) [0, 1] rfl
  have hD9 := hD.sub (ws' := [(tp, .inl (g 0, 0, .inl fr)), (q_1, .inr (1, [.int 0, .ref (g 10), .int 0]))]) [0, 1] (by decide) rfl
  exact W.aret (v := .ref q_1) hx hb hr (Or.inl ⟨_, rfl⟩) (Or.inr ⟨_, rfl⟩) (fun t ht hW => ⟨⟨some q_1, (fun j => ([q_1] : List Nat).getD j 0), rfl, rfl, ⟨P_at ht hP9, hD9⟩⟩, hS.F ht⟩) hS.2.2 dX13_replaced_225
set_option maxHeartbeats 4000000 in
set_option maxRecDepth 100000 in
theorem c_X13_runsOf_0 (l : Launch) (dC : Nat → ClassId) (dI : Nat → Nat → Nat) (g : Nat → ClassId) (mo : Nat) (tp : Nat) (byy : Nat) (fr : Nat → Int32) (fb : Nat → Int32) (m0 : Int32) (m1 : Nat) (m2 : Nat) (m3 : Int32) (m4 : Nat) (m5 : Nat) (m6 : Nat) (m7 : Option Nat) (m8 : Nat) (m9 : Int32) (m10 : Int32) (m11 : Int32) (m12 : Int32) (m13 : Int32) (h1 : fb (1 : Int32).toNatClampNeg = 0) (h2 : fb (2 : Int32).toNatClampNeg = 4) (sz : Nat) : Met l yX13_runsOf wsX13_runsOf ({ frames := 4, cells := 1, slots := 3, locals := 72 }) (va_Pc [.ref mo, .ref tp, .ref byy] (PG (dC, dI) g [(mo, .inr (15, [.int m0, .ref m1, .ref m2, .int m3, .ref m4, .ref m5, .ref m6, va_rf (m7), .ref m8, .int m9, .int m10, .int m11, .int m12, .int m13])), (tp, .inl (g 0, 0, .inl fr)), (byy, .inl (g 0, 5, .inl fb))] sz)) (va_Qq (fun (r : Option Nat) (u : Nat → Nat) => r = some (u 0)) (fun (u : Nat → Nat) t9 => va_P (dC, dI) vwCl [(mo, .inr (15, [.int m0, .ref m1, .ref m2, .int m3, .ref m4, .ref m5, .ref m6, va_rf (m7), .ref m8, .int m9, .int m10, .int m11, .int m12, .int m13])), (tp, .inl (g 0, 0, .inl fr)), (byy, .inl (g 0, 5, .inl fb)), ((u 0), .inr (1, [.int 0, .ref (g 10), .int 0]))] t9.heap ∧ va_D (va_A [(mo, .inr (15, [.int m0, .ref m1, .ref m2, .int m3, .ref m4, .ref m5, .ref m6, va_rf (m7), .ref m8, .int m9, .int m10, .int m11, .int m12, .int m13])), (tp, .inl (g 0, 0, .inl fr)), (byy, .inl (g 0, 5, .inl fb))] sz) [(mo, .inr (15, [.int m0, .ref m1, .ref m2, .int m3, .ref m4, .ref m5, .ref m6, va_rf (m7), .ref m8, .int m9, .int m10, .int m11, .int m12, .int m13])), (tp, .inl (g 0, 0, .inl fr)), (byy, .inl (g 0, 5, .inl fb)), ((u 0), .inr (1, [.int 0, .ref (g 10), .int 0]))]) (va_A [(mo, .inr (15, [.int m0, .ref m1, .ref m2, .int m3, .ref m4, .ref m5, .ref m6, va_rf (m7), .ref m8, .int m9, .int m10, .int m11, .int m12, .int m13])), (tp, .inl (g 0, 0, .inl fr)), (byy, .inl (g 0, 5, .inl fb))] sz)) 1 3 (va_A [(mo, .inr (15, [.int m0, .ref m1, .ref m2, .int m3, .ref m4, .ref m5, .ref m6, va_rf (m7), .ref m8, .int m9, .int m10, .int m11, .int m12, .int m13])), (tp, .inl (g 0, 0, .inl fr)), (byy, .inl (g 0, 5, .inl fb))] sz) := by
  refine Met.ofW (cc := cX13_runsOf) (maxL := 7) (ret := (some (.object "java/util/List"))) (by decide) rfl ?_
  intro p e s m args below meth c s₁ B hml hv
  obtain ⟨rfl, hsz, hP, hK, hD0, hG⟩ := hv
  have hx := B.exec
  have hb := B.bytes
  have hr := B.returns
  have hts := atoms_spec (ws := wsX13_runsOf) B.pre
  have hown : s.vm.findClass RX13 = some m.cls := findClass_of_methodNamed B.named
  have hlocks := B.notSynchronized
  subst hsz
  have hD := hD0.self (sz := s.heap.size)
  generalize hAe : va_A [(mo, .inr (15, [.int m0, .ref m1, .ref m2, .int m3, .ref m4, .ref m5, .ref m6, va_rf (m7), .ref m8, .int m9, .int m10, .int m11, .int m12, .int m13])), (tp, .inl (g 0, 0, .inl fr)), (byy, .inl (g 0, 5, .inl fb))] s.heap.size = A at hD hG ⊢
  have hA : ∀ q : Nat, s.heap.size ≤ q → A q := fun q h => by rw [← hAe]; exact Or.inr h
  have hS : va_S A s.heap s.heap [] := va_S.rf
  have hl := lv_entry ([.ref mo, .ref tp, .ref byy]) (n := 7) (Nat.le_of_ble_eq_true rfl)
  rw [lg_entry_eq]
  generalize (lg_sl ([.ref mo, .ref tp, .ref byy]) ++ List.replicate (7 - (lg_sl ([.ref mo, .ref tp, .ref byy])).length) Slot.unset).toArray = ls at hl ⊢
  have hl : lv_has ls 7 [(0, .ref mo), (1, .ref tp), (2, .ref byy)] := hl
  have hcl98 := hts (Cond.classLink RX13 98 RJx4a65c) (by decide +kernel)
  have hinJx4a65c := hts (Cond.instantiable RJx4a65c 3) (by decide +kernel)
  have hiniJx4a65c := hts (Cond.initialized RJx4a65c) (by decide +kernel)
  have hiJx4a65c : ∀ w ∈ u_ws RJx4a65c TJx4a65c 3, w ∈ wsX13_runsOf := by decide +kernel
  have himJx4a65c_init_da8c8 := hts (Cond.instanceMethod yJx4a65c_init_da8c8) (by decide +kernel)
  have hml100 := hts (Cond.methodLink RX13 100 yJx4a65c_init_da8c8) (by decide +kernel)
  refine lv_aload_n hx hb dX13_runsOf_0 rfl (lv_at hl 2 rfl) ?_
  refine lv_iconst (v := 1) hx hb dX13_runsOf_1 (by decide) ?_
  refine va_iald hx hb hK hP 2 0 rfl rfl (by unfold vp_in; decide) dX13_runsOf_2 ?_
  refine lv_topi (fun x_1 ex_1 => ?_)
  obtain rfl : x_1 = 0 := ex_1.trans h1
  refine lv_iconst (v := 1) hx hb dX13_runsOf_3 (by decide) ?_
  refine lv_icmp_ne (tgt := 19) hx hb dX13_runsOf_4 (by decide) (fun c_2 => ?_) (fun c_2 => absurd c_2 (by decide))
  refine va_new (ci := 1) (fs := [.int 0, .null, .int 0]) (C := RJx4a65c) (T := TJx4a65c) (N := 3) hx hb hts hiJx4a65c tyJx4a65c tyJx4a65c_ok hown hcl98 hinJx4a65c hiniJx4a65c hK hP hD hS hA rfl (fun j hj => by rcases (show j = 0 ∨ j = 1 ∨ j = 2 by omega) with rfl | rfl | rfl <;> rfl) (Nat.le_of_ble_eq_true rfl) (Nat.le_of_ble_eq_true rfl) dX13_runsOf_19 (fun q_3 H_4 hP hD hS => ?_)
  have hP : va_P (dC, dI) vwCl [(mo, .inr (15, [.int m0, .ref m1, .ref m2, .int m3, .ref m4, .ref m5, .ref m6, va_rf (m7), .ref m8, .int m9, .int m10, .int m11, .int m12, .int m13])), (tp, .inl (g 0, 0, .inl fr)), (byy, .inl (g 0, 5, .inl fb)), (q_3, .inr (1, [.int 0, .null, .int 0]))] H_4 := hP
  have hD : va_D A [(mo, .inr (15, [.int m0, .ref m1, .ref m2, .int m3, .ref m4, .ref m5, .ref m6, va_rf (m7), .ref m8, .int m9, .int m10, .int m11, .int m12, .int m13])), (tp, .inl (g 0, 0, .inl fr)), (byy, .inl (g 0, 5, .inl fb)), (q_3, .inr (1, [.int 0, .null, .int 0]))] := hD
  refine W.widen (k := 1) (n := 3) (by omega) (by omega) ?_
  refine lv_dup hx hb dX13_runsOf_22 rfl ?_
  have hPc := hP.sub (ws' := [(q_3, .inr (1, [.int 0, .null, .int 0]))]) [3] rfl
  have hDc := hD.sub (ws' := [(q_3, .inr (1, [.int 0, .null, .int 0]))]) [3] (by decide) rfl
  have hFc := va_free (wc := [(q_3, .inr (1, [.int 0, .null, .int 0]))]) hD hS hA [3] rfl
  refine va_callv (va_runI (As := []) (rest := [.ref q_3]) ⟨hx, hb, hml, hown, hts⟩ (c_Jx4a65c_init_da8c8 l dC dI g q_3  H_4.size) (cwI 0 hts gX13_runsOf_Jx4a65c_init_da8c8 rfl rfl rfl hiniJx4a65c hml100 himJx4a65c_init_da8c8 rfl (by decide +kernel) ⟨Nat.le_of_ble_eq_true rfl, Nat.le_of_ble_eq_true rfl⟩) ⟨PG_blind, PG_call hK hG hS hPc hDc hFc⟩ rfl rfl hl.1 rfl (lv_room (Nat.le_of_ble_eq_true rfl)) dX13_runsOf_23 ⟨Nat.le_of_ble_eq_true rfl, Nat.le_of_ble_eq_true rfl⟩) hS (fun q _ h => hFc q h) hFc (fun u_5 t_5 H_5 L_5 ht_5 hvm_5 hw_5 hB_5 hz_5 hk_5 hS => ?_)
  obtain ⟨hP1, hD1⟩ := hB_5
  rw [ht_5] at hP1
  obtain ⟨hP, hD⟩ := va_join (wr := [(mo, .inr (15, [.int m0, .ref m1, .ref m2, .int m3, .ref m4, .ref m5, .ref m6, va_rf (m7), .ref m8, .int m9, .int m10, .int m11, .int m12, .int m13])), (tp, .inl (g 0, 0, .inl fr)), (byy, .inl (g 0, 5, .inl fb))]) (w1 := [(q_3, .inr (1, [.int 0, .ref (g 10), .int 0]))]) hP hD [3] [0, 1, 2] rfl rfl (by decide) (by decide) hk_5 hFc hP1 hD1
  have hP : va_P (dC, dI) vwCl [(mo, .inr (15, [.int m0, .ref m1, .ref m2, .int m3, .ref m4, .ref m5, .ref m6, va_rf (m7), .ref m8, .int m9, .int m10, .int m11, .int m12, .int m13])), (tp, .inl (g 0, 0, .inl fr)), (byy, .inl (g 0, 5, .inl fb)), (q_3, .inr (1, [.int 0, .ref (g 10), .int 0]))] H_5 := hP
  have hD : va_D A [(mo, .inr (15, [.int m0, .ref m1, .ref m2, .int m3, .ref m4, .ref m5, .ref m6, va_rf (m7), .ref m8, .int m9, .int m10, .int m11, .int m12, .int m13])), (tp, .inl (g 0, 0, .inl fr)), (byy, .inl (g 0, 5, .inl fb)), (q_3, .inr (1, [.int 0, .ref (g 10), .int 0]))] := hD
  refine lv_astore_n (lv' := [(3, .ref q_3), (0, .ref mo), (1, .ref tp), (2, .ref byy)]) hx hb dX13_runsOf_26 rfl hl (by decide) rfl (fun ls hl => ?_)
  refine lv_iconst (v := 0) hx hb dX13_runsOf_27 (by decide) ?_
  refine lv_istore (lv' := [(4, .int 0), (3, .ref q_3), (0, .ref mo), (1, .ref tp), (2, .ref byy)]) hx hb dX13_runsOf_28 hl (by decide) rfl (fun ls hl => ?_)
  refine lv_iload hx hb dX13_runsOf_30 (lv_at hl 0 rfl) ?_
  refine lv_aload_n hx hb dX13_runsOf_32 rfl (lv_at hl 3 rfl) ?_
  refine va_alen hx hb hK hP 1 0 rfl rfl (v := 0) rfl dX13_runsOf_33 ?_
  refine lv_icmp_ge (tgt := 131) hx hb dX13_runsOf_34 (by decide) (fun c_6 => ?_) (fun c_6 => absurd (by decide) c_6)
  refine lv_aload_n hx hb dX13_runsOf_131 rfl (lv_at hl 1 rfl) ?_
  have hP9 := hP.sub (ws' := [(mo, .inr (15, [.int m0, .ref m1, .ref m2, .int m3, .ref m4, .ref m5, .ref m6, va_rf (m7), .ref m8, .int m9, .int m10, .int m11, .int m12, .int m13])), (tp, .inl (g 0, 0, .inl fr)), (byy, .inl (g 0, 5, .inl fb)), (q_3, .inr (1, [.int 0, .ref (g 10), .int 0]))]) [0, 1, 2, 3] rfl
  have hD9 := hD.sub (ws' := [(mo, .inr (15, [.int m0, .ref m1, .ref m2, .int m3, .ref m4, .ref m5, .ref m6, va_rf (m7), .ref m8, .int m9, .int m10, .int m11, .int m12, .int m13])), (tp, .inl (g 0, 0, .inl fr)), (byy, .inl (g 0, 5, .inl fb)), (q_3, .inr (1, [.int 0, .ref (g 10), .int 0]))]) [0, 1, 2, 3] (by decide) rfl
  exact W.aret (v := .ref q_3) hx hb hr (Or.inl ⟨_, rfl⟩) (Or.inr ⟨_, rfl⟩) (fun t ht hW => ⟨⟨some q_3, (fun j => ([q_3] : List Nat).getD j 0), rfl, rfl, ⟨P_at ht hP9, hD9⟩⟩, hS.F ht⟩) hS.2.2 dX13_runsOf_132
set_option maxHeartbeats 4000000 in
set_option maxRecDepth 100000 in
theorem c_X13_runsOf_1 (l : Launch) (dC : Nat → ClassId) (dI : Nat → Nat → Nat) (g : Nat → ClassId) (mo : Nat) (tp : Nat) (byy : Nat) (fr : Nat → Int32) (fb : Nat → Int32) (m0 : Int32) (m1 : Nat) (m2 : Nat) (m3 : Int32) (m4 : Nat) (m5 : Nat) (m6 : Nat) (m7 : Option Nat) (m8 : Nat) (m9 : Int32) (m10 : Int32) (m11 : Int32) (m12 : Int32) (m13 : Int32) (h1 : fb (1 : Int32).toNatClampNeg = 1) (h2 : fb (2 : Int32).toNatClampNeg = 4) (sz : Nat) : Met l yX13_runsOf wsX13_runsOf ({ frames := 5, cells := 4, slots := 12, locals := 102 }) (va_Pc [.ref mo, .ref tp, .ref byy] (PG (dC, dI) g [(mo, .inr (15, [.int m0, .ref m1, .ref m2, .int m3, .ref m4, .ref m5, .ref m6, va_rf (m7), .ref m8, .int m9, .int m10, .int m11, .int m12, .int m13])), (tp, .inl (g 0, 0, .inl fr)), (byy, .inl (g 0, 5, .inl fb))] sz)) (va_Qq (fun (r : Option Nat) (u : Nat → Nat) => r = some (u 0)) (fun (u : Nat → Nat) t9 => va_P (dC, dI) vwCl [(mo, .inr (15, [.int m0, .ref m1, .ref m2, .int m3, .ref m4, .ref m5, .ref m6, va_rf (m7), .ref m8, .int m9, .int m10, .int m11, .int m12, .int m13])), (tp, .inl (g 0, 0, .inl fr)), (byy, .inl (g 0, 5, .inl fb)), ((u 0), .inr (1, [.int 0, .ref (g 10), .int 0]))] t9.heap ∧ va_D (va_A [(mo, .inr (15, [.int m0, .ref m1, .ref m2, .int m3, .ref m4, .ref m5, .ref m6, va_rf (m7), .ref m8, .int m9, .int m10, .int m11, .int m12, .int m13])), (tp, .inl (g 0, 0, .inl fr)), (byy, .inl (g 0, 5, .inl fb))] sz) [(mo, .inr (15, [.int m0, .ref m1, .ref m2, .int m3, .ref m4, .ref m5, .ref m6, va_rf (m7), .ref m8, .int m9, .int m10, .int m11, .int m12, .int m13])), (tp, .inl (g 0, 0, .inl fr)), (byy, .inl (g 0, 5, .inl fb)), ((u 0), .inr (1, [.int 0, .ref (g 10), .int 0]))]) (va_A [(mo, .inr (15, [.int m0, .ref m1, .ref m2, .int m3, .ref m4, .ref m5, .ref m6, va_rf (m7), .ref m8, .int m9, .int m10, .int m11, .int m12, .int m13])), (tp, .inl (g 0, 0, .inl fr)), (byy, .inl (g 0, 5, .inl fb))] sz)) 4 12 (va_A [(mo, .inr (15, [.int m0, .ref m1, .ref m2, .int m3, .ref m4, .ref m5, .ref m6, va_rf (m7), .ref m8, .int m9, .int m10, .int m11, .int m12, .int m13])), (tp, .inl (g 0, 0, .inl fr)), (byy, .inl (g 0, 5, .inl fb))] sz) := by
  refine Met.ofW (cc := cX13_runsOf) (maxL := 7) (ret := (some (.object "java/util/List"))) (by decide) rfl ?_
  intro p e s m args below meth c s₁ B hml hv
  obtain ⟨rfl, hsz, hP, hK, hD0, hG⟩ := hv
  have hx := B.exec
  have hb := B.bytes
  have hr := B.returns
  have hts := atoms_spec (ws := wsX13_runsOf) B.pre
  have hown : s.vm.findClass RX13 = some m.cls := findClass_of_methodNamed B.named
  have hlocks := B.notSynchronized
  subst hsz
  have hD := hD0.self (sz := s.heap.size)
  generalize hAe : va_A [(mo, .inr (15, [.int m0, .ref m1, .ref m2, .int m3, .ref m4, .ref m5, .ref m6, va_rf (m7), .ref m8, .int m9, .int m10, .int m11, .int m12, .int m13])), (tp, .inl (g 0, 0, .inl fr)), (byy, .inl (g 0, 5, .inl fb))] s.heap.size = A at hD hG ⊢
  have hA : ∀ q : Nat, s.heap.size ≤ q → A q := fun q h => by rw [← hAe]; exact Or.inr h
  have hS : va_S A s.heap s.heap [] := va_S.rf
  have hl := lv_entry ([.ref mo, .ref tp, .ref byy]) (n := 7) (Nat.le_of_ble_eq_true rfl)
  rw [lg_entry_eq]
  generalize (lg_sl ([.ref mo, .ref tp, .ref byy]) ++ List.replicate (7 - (lg_sl ([.ref mo, .ref tp, .ref byy])).length) Slot.unset).toArray = ls at hl ⊢
  have hl : lv_has ls 7 [(0, .ref mo), (1, .ref tp), (2, .ref byy)] := hl
  refine lv_aload_n hx hb dX13_runsOf_0 rfl (lv_at hl 2 rfl) ?_
  refine lv_iconst (v := 1) hx hb dX13_runsOf_1 (by decide) ?_
  refine va_iald hx hb hK hP 2 0 rfl rfl (by unfold vp_in; decide) dX13_runsOf_2 ?_
  refine lv_topi (fun x_1 ex_1 => ?_)
  obtain rfl : x_1 = 1 := ex_1.trans h1
  refine lv_iconst (v := 1) hx hb dX13_runsOf_3 (by decide) ?_
  refine lv_icmp_ne (tgt := 19) hx hb dX13_runsOf_4 (by decide) (fun c_2 => absurd (by decide) c_2) (fun c_2 => ?_)
  refine lv_aload_n hx hb dX13_runsOf_7 rfl (lv_at hl 0 rfl) ?_
  refine lv_aload_n hx hb dX13_runsOf_8 rfl (lv_at hl 1 rfl) ?_
  refine lv_aload_n hx hb dX13_runsOf_9 rfl (lv_at hl 2 rfl) ?_
  refine lv_iconst (v := 0) hx hb dX13_runsOf_10 (by decide) ?_
  refine va_iald hx hb hK hP 2 0 rfl rfl (by unfold vp_in; decide) dX13_runsOf_11 ?_
  refine lv_topi (fun x_3 ex_3 => ?_)
  refine lv_aload_n hx hb dX13_runsOf_12 rfl (lv_at hl 2 rfl) ?_
  refine lv_iconst (v := 2) hx hb dX13_runsOf_13 (by decide) ?_
  refine va_iald hx hb hK hP 2 0 rfl rfl (by unfold vp_in; decide) dX13_runsOf_14 ?_
  refine lv_topi (fun x_4 ex_4 => ?_)
  obtain rfl : x_4 = 4 := ex_4.trans h2
  have hPc := hP.sub (ws' := [(tp, .inl (g 0, 0, .inl fr))]) [1] rfl
  have hDc := hD.sub (ws' := [(tp, .inl (g 0, 0, .inl fr))]) [1] (by decide) rfl
  have hFc := va_free (wc := [(tp, .inl (g 0, 0, .inl fr))]) hD hS hA [1] rfl
  refine va_callq (va_runV (As := [.ref tp, .int x_3, .int 4]) (rest := []) ⟨hx, hb, hml, hown, hts⟩ (c_X13_replaced l dC dI g mo tp fr x_3  s.heap.size) (cwV 3 hts gX13_runsOf_X13_replaced rfl rfl rfl (by decide +kernel) ⟨Nat.le_of_ble_eq_true rfl, Nat.le_of_ble_eq_true rfl⟩) ⟨PG_blind, va_recv hK hP (ci := 15) (q0 := 0) rfl rfl, PG_call hK hG hS hPc hDc hFc⟩ rfl rfl hl.1 rfl (lv_room (Nat.le_of_ble_eq_true rfl)) dX13_runsOf_15 ⟨Nat.le_of_ble_eq_true rfl, Nat.le_of_ble_eq_true rfl⟩) hS (fun q _ h => hFc q h) hFc (fun r_5 u_5 t_5 H_5 L_5 ht_5 hvm_5 hw_5 hB_5 hz_5 hk_5 hS => ?_)
  obtain ⟨hP1, hD1⟩ := hB_5
  rw [ht_5] at hP1
  obtain ⟨hP, hD⟩ := va_join (wr := [(mo, .inr (15, [.int m0, .ref m1, .ref m2, .int m3, .ref m4, .ref m5, .ref m6, va_rf (m7), .ref m8, .int m9, .int m10, .int m11, .int m12, .int m13])), (byy, .inl (g 0, 5, .inl fb))]) (w1 := [(tp, .inl (g 0, 0, .inl fr)), ((u_5 0), .inr (1, [.int 0, .ref (g 10), .int 0]))]) hP hD [1] [0, 2] rfl rfl (by decide) (by decide) hk_5 hFc hP1 hD1
  have hP : va_P (dC, dI) vwCl [(mo, .inr (15, [.int m0, .ref m1, .ref m2, .int m3, .ref m4, .ref m5, .ref m6, va_rf (m7), .ref m8, .int m9, .int m10, .int m11, .int m12, .int m13])), (byy, .inl (g 0, 5, .inl fb)), (tp, .inl (g 0, 0, .inl fr)), ((u_5 0), .inr (1, [.int 0, .ref (g 10), .int 0]))] H_5 := hP
  have hD : va_D A [(mo, .inr (15, [.int m0, .ref m1, .ref m2, .int m3, .ref m4, .ref m5, .ref m6, va_rf (m7), .ref m8, .int m9, .int m10, .int m11, .int m12, .int m13])), (byy, .inl (g 0, 5, .inl fb)), (tp, .inl (g 0, 0, .inl fr)), ((u_5 0), .inr (1, [.int 0, .ref (g 10), .int 0]))] := hD
  refine W.widen (k := 4) (n := 12) (by omega) (by omega) ?_
  obtain rfl : r_5 = some (u_5 0) := hw_5
  refine W.eq (g2 := F0 m 18 ls [.ref (u_5 0)]) rfl ?_
  have hP9 := hP.sub (ws' := [(mo, .inr (15, [.int m0, .ref m1, .ref m2, .int m3, .ref m4, .ref m5, .ref m6, va_rf (m7), .ref m8, .int m9, .int m10, .int m11, .int m12, .int m13])), (tp, .inl (g 0, 0, .inl fr)), (byy, .inl (g 0, 5, .inl fb)), ((u_5 0), .inr (1, [.int 0, .ref (g 10), .int 0]))]) [0, 2, 1, 3] rfl
  have hD9 := hD.sub (ws' := [(mo, .inr (15, [.int m0, .ref m1, .ref m2, .int m3, .ref m4, .ref m5, .ref m6, va_rf (m7), .ref m8, .int m9, .int m10, .int m11, .int m12, .int m13])), (tp, .inl (g 0, 0, .inl fr)), (byy, .inl (g 0, 5, .inl fb)), ((u_5 0), .inr (1, [.int 0, .ref (g 10), .int 0]))]) [0, 2, 1, 3] (by decide) rfl
  exact W.aret (v := .ref (u_5 0)) hx hb hr (Or.inl ⟨_, rfl⟩) (Or.inr ⟨_, rfl⟩) (fun t ht hW => ⟨⟨some (u_5 0), (fun j => ([(u_5 0)] : List Nat).getD j 0), rfl, rfl, ⟨P_at ht hP9, hD9⟩⟩, hS.F ht⟩) hS.2.2 dX13_runsOf_18
set_option maxHeartbeats 4000000 in
set_option maxRecDepth 100000 in
theorem c_X13_runsOf_2 (l : Launch) (dC : Nat → ClassId) (dI : Nat → Nat → Nat) (g : Nat → ClassId) (mo : Nat) (tp : Nat) (byy : Nat) (fr : Nat → Int32) (fb : Nat → Int32) (m0 : Int32) (m1 : Nat) (m2 : Nat) (m3 : Int32) (m4 : Nat) (m5 : Nat) (m6 : Nat) (m7 : Option Nat) (m8 : Nat) (m9 : Int32) (m10 : Int32) (m11 : Int32) (m12 : Int32) (m13 : Int32) (h1 : fb (1 : Int32).toNatClampNeg = 2) (h2 : fb (2 : Int32).toNatClampNeg = 4) (sz : Nat) : Met l yX13_runsOf wsX13_runsOf ({ frames := 4, cells := 1, slots := 3, locals := 72 }) (va_Pc [.ref mo, .ref tp, .ref byy] (PG (dC, dI) g [(mo, .inr (15, [.int m0, .ref m1, .ref m2, .int m3, .ref m4, .ref m5, .ref m6, va_rf (m7), .ref m8, .int m9, .int m10, .int m11, .int m12, .int m13])), (tp, .inl (g 0, 0, .inl fr)), (byy, .inl (g 0, 5, .inl fb))] sz)) (va_Qq (fun (r : Option Nat) (u : Nat → Nat) => r = some (u 0)) (fun (u : Nat → Nat) t9 => va_P (dC, dI) vwCl [(mo, .inr (15, [.int m0, .ref m1, .ref m2, .int m3, .ref m4, .ref m5, .ref m6, va_rf (m7), .ref m8, .int m9, .int m10, .int m11, .int m12, .int m13])), (tp, .inl (g 0, 0, .inl fr)), (byy, .inl (g 0, 5, .inl fb)), ((u 0), .inr (1, [.int 0, .ref (g 10), .int 0]))] t9.heap ∧ va_D (va_A [(mo, .inr (15, [.int m0, .ref m1, .ref m2, .int m3, .ref m4, .ref m5, .ref m6, va_rf (m7), .ref m8, .int m9, .int m10, .int m11, .int m12, .int m13])), (tp, .inl (g 0, 0, .inl fr)), (byy, .inl (g 0, 5, .inl fb))] sz) [(mo, .inr (15, [.int m0, .ref m1, .ref m2, .int m3, .ref m4, .ref m5, .ref m6, va_rf (m7), .ref m8, .int m9, .int m10, .int m11, .int m12, .int m13])), (tp, .inl (g 0, 0, .inl fr)), (byy, .inl (g 0, 5, .inl fb)), ((u 0), .inr (1, [.int 0, .ref (g 10), .int 0]))]) (va_A [(mo, .inr (15, [.int m0, .ref m1, .ref m2, .int m3, .ref m4, .ref m5, .ref m6, va_rf (m7), .ref m8, .int m9, .int m10, .int m11, .int m12, .int m13])), (tp, .inl (g 0, 0, .inl fr)), (byy, .inl (g 0, 5, .inl fb))] sz)) 1 3 (va_A [(mo, .inr (15, [.int m0, .ref m1, .ref m2, .int m3, .ref m4, .ref m5, .ref m6, va_rf (m7), .ref m8, .int m9, .int m10, .int m11, .int m12, .int m13])), (tp, .inl (g 0, 0, .inl fr)), (byy, .inl (g 0, 5, .inl fb))] sz) := by
  refine Met.ofW (cc := cX13_runsOf) (maxL := 7) (ret := (some (.object "java/util/List"))) (by decide) rfl ?_
  intro p e s m args below meth c s₁ B hml hv
  obtain ⟨rfl, hsz, hP, hK, hD0, hG⟩ := hv
  have hx := B.exec
  have hb := B.bytes
  have hr := B.returns
  have hts := atoms_spec (ws := wsX13_runsOf) B.pre
  have hown : s.vm.findClass RX13 = some m.cls := findClass_of_methodNamed B.named
  have hlocks := B.notSynchronized
  subst hsz
  have hD := hD0.self (sz := s.heap.size)
  generalize hAe : va_A [(mo, .inr (15, [.int m0, .ref m1, .ref m2, .int m3, .ref m4, .ref m5, .ref m6, va_rf (m7), .ref m8, .int m9, .int m10, .int m11, .int m12, .int m13])), (tp, .inl (g 0, 0, .inl fr)), (byy, .inl (g 0, 5, .inl fb))] s.heap.size = A at hD hG ⊢
  have hA : ∀ q : Nat, s.heap.size ≤ q → A q := fun q h => by rw [← hAe]; exact Or.inr h
  have hS : va_S A s.heap s.heap [] := va_S.rf
  have hl := lv_entry ([.ref mo, .ref tp, .ref byy]) (n := 7) (Nat.le_of_ble_eq_true rfl)
  rw [lg_entry_eq]
  generalize (lg_sl ([.ref mo, .ref tp, .ref byy]) ++ List.replicate (7 - (lg_sl ([.ref mo, .ref tp, .ref byy])).length) Slot.unset).toArray = ls at hl ⊢
  have hl : lv_has ls 7 [(0, .ref mo), (1, .ref tp), (2, .ref byy)] := hl
  have hcl98 := hts (Cond.classLink RX13 98 RJx4a65c) (by decide +kernel)
  have hinJx4a65c := hts (Cond.instantiable RJx4a65c 3) (by decide +kernel)
  have hiniJx4a65c := hts (Cond.initialized RJx4a65c) (by decide +kernel)
  have hiJx4a65c : ∀ w ∈ u_ws RJx4a65c TJx4a65c 3, w ∈ wsX13_runsOf := by decide +kernel
  have himJx4a65c_init_da8c8 := hts (Cond.instanceMethod yJx4a65c_init_da8c8) (by decide +kernel)
  have hml100 := hts (Cond.methodLink RX13 100 yJx4a65c_init_da8c8) (by decide +kernel)
  refine lv_aload_n hx hb dX13_runsOf_0 rfl (lv_at hl 2 rfl) ?_
  refine lv_iconst (v := 1) hx hb dX13_runsOf_1 (by decide) ?_
  refine va_iald hx hb hK hP 2 0 rfl rfl (by unfold vp_in; decide) dX13_runsOf_2 ?_
  refine lv_topi (fun x_1 ex_1 => ?_)
  obtain rfl : x_1 = 2 := ex_1.trans h1
  refine lv_iconst (v := 1) hx hb dX13_runsOf_3 (by decide) ?_
  refine lv_icmp_ne (tgt := 19) hx hb dX13_runsOf_4 (by decide) (fun c_2 => ?_) (fun c_2 => absurd c_2 (by decide))
  refine va_new (ci := 1) (fs := [.int 0, .null, .int 0]) (C := RJx4a65c) (T := TJx4a65c) (N := 3) hx hb hts hiJx4a65c tyJx4a65c tyJx4a65c_ok hown hcl98 hinJx4a65c hiniJx4a65c hK hP hD hS hA rfl (fun j hj => by rcases (show j = 0 ∨ j = 1 ∨ j = 2 by omega) with rfl | rfl | rfl <;> rfl) (Nat.le_of_ble_eq_true rfl) (Nat.le_of_ble_eq_true rfl) dX13_runsOf_19 (fun q_3 H_4 hP hD hS => ?_)
  have hP : va_P (dC, dI) vwCl [(mo, .inr (15, [.int m0, .ref m1, .ref m2, .int m3, .ref m4, .ref m5, .ref m6, va_rf (m7), .ref m8, .int m9, .int m10, .int m11, .int m12, .int m13])), (tp, .inl (g 0, 0, .inl fr)), (byy, .inl (g 0, 5, .inl fb)), (q_3, .inr (1, [.int 0, .null, .int 0]))] H_4 := hP
  have hD : va_D A [(mo, .inr (15, [.int m0, .ref m1, .ref m2, .int m3, .ref m4, .ref m5, .ref m6, va_rf (m7), .ref m8, .int m9, .int m10, .int m11, .int m12, .int m13])), (tp, .inl (g 0, 0, .inl fr)), (byy, .inl (g 0, 5, .inl fb)), (q_3, .inr (1, [.int 0, .null, .int 0]))] := hD
  refine W.widen (k := 1) (n := 3) (by omega) (by omega) ?_
  refine lv_dup hx hb dX13_runsOf_22 rfl ?_
  have hPc := hP.sub (ws' := [(q_3, .inr (1, [.int 0, .null, .int 0]))]) [3] rfl
  have hDc := hD.sub (ws' := [(q_3, .inr (1, [.int 0, .null, .int 0]))]) [3] (by decide) rfl
  have hFc := va_free (wc := [(q_3, .inr (1, [.int 0, .null, .int 0]))]) hD hS hA [3] rfl
  refine va_callv (va_runI (As := []) (rest := [.ref q_3]) ⟨hx, hb, hml, hown, hts⟩ (c_Jx4a65c_init_da8c8 l dC dI g q_3  H_4.size) (cwI 0 hts gX13_runsOf_Jx4a65c_init_da8c8 rfl rfl rfl hiniJx4a65c hml100 himJx4a65c_init_da8c8 rfl (by decide +kernel) ⟨Nat.le_of_ble_eq_true rfl, Nat.le_of_ble_eq_true rfl⟩) ⟨PG_blind, PG_call hK hG hS hPc hDc hFc⟩ rfl rfl hl.1 rfl (lv_room (Nat.le_of_ble_eq_true rfl)) dX13_runsOf_23 ⟨Nat.le_of_ble_eq_true rfl, Nat.le_of_ble_eq_true rfl⟩) hS (fun q _ h => hFc q h) hFc (fun u_5 t_5 H_5 L_5 ht_5 hvm_5 hw_5 hB_5 hz_5 hk_5 hS => ?_)
  obtain ⟨hP1, hD1⟩ := hB_5
  rw [ht_5] at hP1
  obtain ⟨hP, hD⟩ := va_join (wr := [(mo, .inr (15, [.int m0, .ref m1, .ref m2, .int m3, .ref m4, .ref m5, .ref m6, va_rf (m7), .ref m8, .int m9, .int m10, .int m11, .int m12, .int m13])), (tp, .inl (g 0, 0, .inl fr)), (byy, .inl (g 0, 5, .inl fb))]) (w1 := [(q_3, .inr (1, [.int 0, .ref (g 10), .int 0]))]) hP hD [3] [0, 1, 2] rfl rfl (by decide) (by decide) hk_5 hFc hP1 hD1
  have hP : va_P (dC, dI) vwCl [(mo, .inr (15, [.int m0, .ref m1, .ref m2, .int m3, .ref m4, .ref m5, .ref m6, va_rf (m7), .ref m8, .int m9, .int m10, .int m11, .int m12, .int m13])), (tp, .inl (g 0, 0, .inl fr)), (byy, .inl (g 0, 5, .inl fb)), (q_3, .inr (1, [.int 0, .ref (g 10), .int 0]))] H_5 := hP
  have hD : va_D A [(mo, .inr (15, [.int m0, .ref m1, .ref m2, .int m3, .ref m4, .ref m5, .ref m6, va_rf (m7), .ref m8, .int m9, .int m10, .int m11, .int m12, .int m13])), (tp, .inl (g 0, 0, .inl fr)), (byy, .inl (g 0, 5, .inl fb)), (q_3, .inr (1, [.int 0, .ref (g 10), .int 0]))] := hD
  refine lv_astore_n (lv' := [(3, .ref q_3), (0, .ref mo), (1, .ref tp), (2, .ref byy)]) hx hb dX13_runsOf_26 rfl hl (by decide) rfl (fun ls hl => ?_)
  refine lv_iconst (v := 0) hx hb dX13_runsOf_27 (by decide) ?_
  refine lv_istore (lv' := [(4, .int 0), (3, .ref q_3), (0, .ref mo), (1, .ref tp), (2, .ref byy)]) hx hb dX13_runsOf_28 hl (by decide) rfl (fun ls hl => ?_)
  refine lv_iload hx hb dX13_runsOf_30 (lv_at hl 0 rfl) ?_
  refine lv_aload_n hx hb dX13_runsOf_32 rfl (lv_at hl 3 rfl) ?_
  refine va_alen hx hb hK hP 1 0 rfl rfl (v := 0) rfl dX13_runsOf_33 ?_
  refine lv_icmp_ge (tgt := 131) hx hb dX13_runsOf_34 (by decide) (fun c_6 => ?_) (fun c_6 => absurd (by decide) c_6)
  refine lv_aload_n hx hb dX13_runsOf_131 rfl (lv_at hl 1 rfl) ?_
  have hP9 := hP.sub (ws' := [(mo, .inr (15, [.int m0, .ref m1, .ref m2, .int m3, .ref m4, .ref m5, .ref m6, va_rf (m7), .ref m8, .int m9, .int m10, .int m11, .int m12, .int m13])), (tp, .inl (g 0, 0, .inl fr)), (byy, .inl (g 0, 5, .inl fb)), (q_3, .inr (1, [.int 0, .ref (g 10), .int 0]))]) [0, 1, 2, 3] rfl
  have hD9 := hD.sub (ws' := [(mo, .inr (15, [.int m0, .ref m1, .ref m2, .int m3, .ref m4, .ref m5, .ref m6, va_rf (m7), .ref m8, .int m9, .int m10, .int m11, .int m12, .int m13])), (tp, .inl (g 0, 0, .inl fr)), (byy, .inl (g 0, 5, .inl fb)), (q_3, .inr (1, [.int 0, .ref (g 10), .int 0]))]) [0, 1, 2, 3] (by decide) rfl
  exact W.aret (v := .ref q_3) hx hb hr (Or.inl ⟨_, rfl⟩) (Or.inr ⟨_, rfl⟩) (fun t ht hW => ⟨⟨some q_3, (fun j => ([q_3] : List Nat).getD j 0), rfl, rfl, ⟨P_at ht hP9, hD9⟩⟩, hS.F ht⟩) hS.2.2 dX13_runsOf_132
