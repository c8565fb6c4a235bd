theorem dX12_atBegin_0 : decode cX12_atBegin 0 = .ok (.iconst 0, 1) := by decide +kernel
theorem dX12_atBegin_1 : decode cX12_atBegin 1 = .ok (.istore_n 1, 1) := by decide +kernel
theorem dX12_atBegin_2 : decode cX12_atBegin 2 = .ok (.iconst 0, 1) := by decide +kernel
theorem dX12_atBegin_3 : decode cX12_atBegin 3 = .ok (.istore_n 2, 1) := by decide +kernel
theorem dX12_atBegin_4 : decode cX12_atBegin 4 = .ok (.iload_n 2, 1) := by decide +kernel
theorem dX12_atBegin_5 : decode cX12_atBegin 5 = .ok (.aload_n 0, 1) := by decide +kernel
theorem dX12_atBegin_6 : decode cX12_atBegin 6 = .ok (.getfield 22, 3) := by decide +kernel
set_option maxRecDepth 20000 in
theorem ggX12_atBegin_Jx4a65c_size_8abf5 : GoodIn wsX12_atBegin wsJx4a65c_size_8abf5 := goodIn_r _ [7, 8, 38, 39, 40] (by decide +kernel) (by decide +kernel)
set_option maxRecDepth 20000 in
theorem gX12_atBegin_Jx4a65c_size_8abf5_f54Jx4a65c : GoodIn wsX12_atBegin (va_wsF RX12 54 RJx4a65c ⟨"java/util/List", "size", "()I"⟩ yJx4a65c_size_8abf5 wsJx4a65c_size_8abf5) := goodIn_app (goodIn_of _ (by decide +kernel)) ggX12_atBegin_Jx4a65c_size_8abf5
theorem dX12_atBegin_9 : decode cX12_atBegin 9 = .ok (.invokeinterface 54 1, 5) := by decide +kernel
theorem dX12_atBegin_14 : decode cX12_atBegin 14 = .ok (.if_icmp .ge 30, 3) := by decide +kernel
theorem dX12_atBegin_17 : decode cX12_atBegin 17 = .ok (.iload_n 1, 1) := by decide +kernel
theorem dX12_atBegin_18 : decode cX12_atBegin 18 = .ok (.aload_n 0, 1) := by decide +kernel
theorem dX12_atBegin_19 : decode cX12_atBegin 19 = .ok (.getfield 22, 3) := by decide +kernel
theorem dX12_atBegin_22 : decode cX12_atBegin 22 = .ok (.iload_n 2, 1) := by decide +kernel
set_option maxRecDepth 20000 in
theorem ggX12_atBegin_Jx4a65c_get_915e3 : GoodIn wsX12_atBegin wsJx4a65c_get_915e3 := goodIn_r _ [12, 8, 13, 14, 15, 16, 17, 18, 19, 20, 21, 22, 23, 6, 24, 25, 38, 39, 40] (by decide +kernel) (by decide +kernel)
set_option maxRecDepth 20000 in
theorem gX12_atBegin_Jx4a65c_get_915e3_f65Jx4a65c : GoodIn wsX12_atBegin (va_wsF RX12 65 RJx4a65c ⟨"java/util/List", "get", "(I)Ljava/lang/Object;"⟩ yJx4a65c_get_915e3 wsJx4a65c_get_915e3) := goodIn_app (goodIn_of _ (by decide +kernel)) ggX12_atBegin_Jx4a65c_get_915e3
theorem dX12_atBegin_23 : decode cX12_atBegin 23 = .ok (.invokeinterface 65 2, 5) := by decide +kernel
theorem dX12_atBegin_28 : decode cX12_atBegin 28 = .ok (.checkcast 45, 3) := by decide +kernel
theorem dX12_atBegin_31 : decode cX12_atBegin 31 = .ok (.invokeinterface 54 1, 5) := by decide +kernel
theorem dX12_atBegin_36 : decode cX12_atBegin 36 = .ok (.iadd, 1) := by decide +kernel
theorem dX12_atBegin_37 : decode cX12_atBegin 37 = .ok (.istore_n 1, 1) := by decide +kernel
theorem dX12_atBegin_38 : decode cX12_atBegin 38 = .ok (.iinc 2 1, 3) := by decide +kernel
theorem dX12_atBegin_41 : decode cX12_atBegin 41 = .ok (.goto (-37), 3) := by decide +kernel
theorem dX12_atBegin_44 : decode cX12_atBegin 44 = .ok (.iload_n 1, 1) := by decide +kernel
theorem dX12_atBegin_45 : decode cX12_atBegin 45 = .ok (.ireturn, 1) := by decide +kernel
theorem dX12_isOver_0 : decode cX12_isOver 0 = .ok (.aload_n 0, 1) := by decide +kernel
set_option maxRecDepth 20000 in
theorem ggX12_isOver_X12_atBegin : GoodIn wsX12_isOver wsX12_atBegin := goodIn_r _ [5, 6, 7, 8, 9, 10, 11, 12, 13, 14, 15, 16, 17, 18, 19, 20, 21, 22, 23, 24, 25, 26, 27, 28, 29, 30, 31, 32, 33, 34, 35, 36, 37, 38, 39, 40, 41, 42, 43, 44, 45] (by decide +kernel) (by decide +kernel)
set_option maxRecDepth 20000 in
theorem gX12_isOver_X12_atBegin : GoodIn wsX12_isOver (wsV RX12 70 RX12 yX12_atBegin wsX12_atBegin) := goodIn_app (goodIn_of _ (by decide +kernel)) ggX12_isOver_X12_atBegin
theorem dX12_isOver_1 : decode cX12_isOver 1 = .ok (.invokevirtual 70, 3) := by decide +kernel
theorem dX12_isOver_4 : decode cX12_isOver 4 = .ok (.iconst 1, 1) := by decide +kernel
theorem dX12_isOver_5 : decode cX12_isOver 5 = .ok (.if_icmp .gt 7, 3) := by decide +kernel
theorem dX12_isOver_8 : decode cX12_isOver 8 = .ok (.iconst 1, 1) := by decide +kernel
theorem dX12_isOver_9 : decode cX12_isOver 9 = .ok (.goto 4, 3) := by decide +kernel
theorem dX12_isOver_13 : decode cX12_isOver 13 = .ok (.ireturn, 1) := by decide +kernel
theorem dX12_goes_0 : decode cX12_goes 0 = .ok (.aload_n 0, 1) := by decide +kernel
set_option maxRecDepth 20000 in
theorem ggX12_goes_X12_isOver : GoodIn wsX12_goes wsX12_isOver := goodIn_r _ [5, 6, 7, 8, 4, 9, 10, 11, 12, 13, 14, 15, 16, 17, 18, 19, 20, 21, 22, 23, 24, 25, 26, 27, 28, 29, 30, 31, 32, 33, 34, 148, 149, 150, 151, 152, 153, 154, 155, 156, 157, 158, 159, 160, 161, 162] (by decide +kernel) (by decide +kernel)
set_option maxRecDepth 20000 in
theorem gX12_goes_X12_isOver : GoodIn wsX12_goes (wsV RX12 118 RX12 yX12_isOver wsX12_isOver) := goodIn_app (goodIn_of _ (by decide +kernel)) ggX12_goes_X12_isOver
theorem dX12_goes_1 : decode cX12_goes 1 = .ok (.invokevirtual 118, 3) := by decide +kernel
theorem dX12_goes_4 : decode cX12_goes 4 = .ok (.ifCond .ne 10, 3) := by decide +kernel
theorem dX12_goes_14 : decode cX12_goes 14 = .ok (.return_, 1) := by decide +kernel
set_option maxHeartbeats 4000000 in
set_option maxRecDepth 100000 in
theorem c_X12_atBegin_0 (l : Launch) (dC : Nat → ClassId) (dI : Nat → Nat → Nat) (g : Nat → ClassId) (Wd : va_W) (t : Nat) (byy : Nat) (rows : Nat) (made : Nat) (mo : Nat) (tb : Nat) (l1 : Nat) (to : Int32) (k0 : Nat) (w0 : Wd[k0]? = some (t, .inr (14, [.ref byy, .int to, .int 0, .ref rows, .ref made, .int 0, .int 0, .int 0, .int 0, .int 0, .int 0, .ref mo]))) (k1 : Nat) (w1 : Wd[k1]? = some (rows, .inr (1, [.int 1, .ref tb, .int 1]))) (k2 : Nat) (w2 : Wd[k2]? = some (tb, .inl (g 5, 10, .inr (.inr (.inr (.inr (va_up (fun _ => none) 0 (some l1)))))))) (k3 : Nat) (w3 : Wd[k3]? = some (l1, .inr (1, [.int 0, .ref (g 10), .int 0]))) (sz : Nat) : Met l yX12_atBegin wsX12_atBegin ({ frames := 3, cells := 0, slots := 0, locals := 64 }) (va_Pc [.ref t] (PG (dC, dI) g Wd sz)) (va_Qi (fun (r : Int32) (_ : Unit) => r = 0) (fun (_ : Unit) t => va_P (dC, dI) vwCl Wd t.heap) (va_A Wd sz)) 0 0 (va_A Wd sz) := by
  refine Met.ofW (cc := cX12_atBegin) (maxL := 3) (ret := (some .int)) (by decide) rfl ?_
  intro p e s m args below meth c s₁ B hml hv
  obtain ⟨rfl, hsz, hP, hK, hD0, hG⟩ := hv
  have hx := B.exec
  have hb := B.bytes
  have hr := B.returns
  have hts := atoms_spec (ws := wsX12_atBegin) B.pre
  have hown : s.vm.findClass RX12 = some m.cls := findClass_of_methodNamed B.named
  have hlocks := B.notSynchronized
  subst hsz
  have hD := hD0.self (sz := s.heap.size)
  generalize hAe : va_A Wd s.heap.size = A at hD hG ⊢
  have hA : ∀ q : Nat, s.heap.size ≤ q → A q := fun q h => by rw [← hAe]; exact Or.inr h
  have hS : va_S A s.heap s.heap [] := va_S.rf
  have hl := lv_entry ([.ref t]) (n := 3) (Nat.le_of_ble_eq_true rfl)
  rw [lg_entry_eq]
  generalize (lg_sl ([.ref t]) ++ List.replicate (3 - (lg_sl ([.ref t])).length) Slot.unset).toArray = ls at hl ⊢
  have hl : lv_has ls 3 [(0, .ref t)] := hl
  have hf22 := hts (Cond.fieldLink RX12 22 "RunmergeOfficeModel$Job" "rows" "Ljava/util/List;") (by decide +kernel)
  have hiX12 : ∀ w ∈ u_ws RX12 TX12 12, w ∈ wsX12_atBegin := by decide +kernel
  have hcl45 := hts (Cond.classLink RX12 45 "java/util/List") (by decide +kernel)
  refine lv_iconst (v := 0) hx hb dX12_atBegin_0 (by decide) ?_
  refine lv_istore_n (lv' := [(1, .int 0), (0, .ref t)]) hx hb dX12_atBegin_1 rfl hl (by decide) rfl (fun ls hl => ?_)
  refine lv_iconst (v := 0) hx hb dX12_atBegin_2 (by decide) ?_
  refine lv_istore_n (lv' := [(2, .int 0), (1, .int 0), (0, .ref t)]) hx hb dX12_atBegin_3 rfl hl (by decide) rfl (fun ls hl => ?_)
  refine lv_iload_n hx hb dX12_atBegin_4 rfl (lv_at hl 0 rfl) ?_
  refine lv_aload_n hx hb dX12_atBegin_5 rfl (lv_at hl 2 rfl) ?_
  refine va_get (D := (dC, dI)) (ci := 14) (v := .ref rows) (C := RX12) (T := TX12) (N := 12) hx hb hts hiX12 hown hK hP k0 w0 rfl 3 (by decide) hf22 (fun _ h9 => h9) rfl dX12_atBegin_6 ?_
  refine va_callFi (va_runF (As := []) (rest := [.int 0]) (hK.1 1 _ rfl).2 ⟨hx, hb, hml, hown, hts⟩ (c_Jx4a65c_size_8abf5 l dC dI g Wd rows 1 1 (some tb) k1 w1  s.heap.size) (va_cwF 0 hts gX12_atBegin_Jx4a65c_size_8abf5_f54Jx4a65c rfl rfl rfl (fw_1 hG) (by decide +kernel) ⟨Nat.le_of_ble_eq_true rfl, Nat.le_of_ble_eq_true rfl⟩) ⟨PG_blind, va_recv hK hP (ci := 1) (q0 := k1) rfl w1, PG_call hK hG hS hP hD (A_all hD hA hS.1)⟩ rfl rfl hl.1 rfl (lv_room (Nat.le_of_ble_eq_true rfl)) dX12_atBegin_9 ⟨Nat.le_of_ble_eq_true rfl, Nat.le_of_ble_eq_true rfl⟩) hS (fun q _ h => (A_all hD hA hS.1) q h) (A_all hD hA hS.1) (fun r_1 u_1 t_1 H_1 L_1 ht_1 hvm_1 hw_1 hB_1 hz_1 hk_1 hS => ?_)
  replace hB_1 := (show va_P (dC, dI) vwCl Wd t_1.heap from hB_1)
  rw [ht_1] at hB_1
  have hP := hB_1
  obtain rfl : r_1 = 1 := hw_1
  refine lv_icmp_ge (tgt := 44) hx hb dX12_atBegin_14 (by decide) (fun c_2 => absurd c_2 (by decide)) (fun c_2 => ?_)
  refine lv_iload_n hx hb dX12_atBegin_17 rfl (lv_at hl 1 rfl) ?_
  refine lv_aload_n hx hb dX12_atBegin_18 rfl (lv_at hl 2 rfl) ?_
  refine va_get (D := (dC, dI)) (ci := 14) (v := .ref rows) (C := RX12) (T := TX12) (N := 12) hx hb hts hiX12 hown hK hP k0 w0 rfl 3 (by decide) hf22 (fun _ h9 => h9) rfl dX12_atBegin_19 ?_
  refine lv_iload_n hx hb dX12_atBegin_22 rfl (lv_at hl 0 rfl) ?_
  refine va_callFq (va_runF (As := [.int 0]) (rest := [.int 0]) (hK.1 1 _ rfl).2 ⟨hx, hb, hml, hown, hts⟩ (c_Jx4a65c_get_915e3_01 l dC dI g Wd rows tb l1 1 (va_up (fun _ => none) 0 (some l1)) k1 w1 k2 w2 rfl H_1.size) (va_cwF 1 hts gX12_atBegin_Jx4a65c_get_915e3_f65Jx4a65c rfl rfl rfl (fw_3 hG) (by decide +kernel) ⟨Nat.le_of_ble_eq_true rfl, Nat.le_of_ble_eq_true rfl⟩) ⟨PG_blind, va_recv hK hP (ci := 1) (q0 := k1) rfl w1, PG_call hK hG hS hP hD (A_all hD hA hS.1)⟩ rfl rfl hl.1 rfl (lv_room (Nat.le_of_ble_eq_true rfl)) dX12_atBegin_23 ⟨Nat.le_of_ble_eq_true rfl, Nat.le_of_ble_eq_true rfl⟩) hS (fun q _ h => (A_all hD hA hS.1) q h) (A_all hD hA hS.1) (fun r_3 u_3 t_3 H_3 L_3 ht_3 hvm_3 hw_3 hB_3 hz_3 hk_3 hS => ?_)
  replace hB_3 := (show va_P (dC, dI) vwCl Wd t_3.heap from hB_3)
  rw [ht_3] at hB_3
  have hP := hB_3
  obtain rfl : r_3 = some l1 := hw_3
  refine W.eq (g2 := F0 m 28 ls [.ref l1, .int 0]) rfl ?_
  refine va_castY hx hb hown hcl45 (cc_0 hG) (va_recv hK hP (ci := 1) (q0 := k3) rfl w3) dX12_atBegin_28 ?_
  refine va_callFi (va_runF (As := []) (rest := [.int 0]) (hK.1 1 _ rfl).2 ⟨hx, hb, hml, hown, hts⟩ (c_Jx4a65c_size_8abf5 l dC dI g Wd l1 0 0 (some (g 10)) k3 w3  H_3.size) (va_cwF 0 hts gX12_atBegin_Jx4a65c_size_8abf5_f54Jx4a65c rfl rfl rfl (fw_1 hG) (by decide +kernel) ⟨Nat.le_of_ble_eq_true rfl, Nat.le_of_ble_eq_true rfl⟩) ⟨PG_blind, va_recv hK hP (ci := 1) (q0 := k3) rfl w3, PG_call hK hG hS hP hD (A_all hD hA hS.1)⟩ rfl rfl hl.1 rfl (lv_room (Nat.le_of_ble_eq_true rfl)) dX12_atBegin_31 ⟨Nat.le_of_ble_eq_true rfl, Nat.le_of_ble_eq_true rfl⟩) hS (fun q _ h => (A_all hD hA hS.1) q h) (A_all hD hA hS.1) (fun r_4 u_4 t_4 H_4 L_4 ht_4 hvm_4 hw_4 hB_4 hz_4 hk_4 hS => ?_)
  replace hB_4 := (show va_P (dC, dI) vwCl Wd t_4.heap from hB_4)
  rw [ht_4] at hB_4
  have hP := hB_4
  obtain rfl : r_4 = 0 := hw_4
  refine lv_iadd hx hb dX12_atBegin_36 ?_
  refine lv_topi (fun x_5 ex_5 => ?_)
  obtain rfl : x_5 = 0 := ex_5.trans (by decide)
  refine lv_istore_n (lv' := [(1, .int 0), (2, .int 0), (0, .ref t)]) hx hb dX12_atBegin_37 rfl hl (by decide) rfl (fun ls hl => ?_)
  refine lv_iinc (v := 1) (lv' := [(2, .int 1), (1, .int 0), (0, .ref t)]) hx hb dX12_atBegin_38 hl (k := 1) rfl (by decide) (by decide) rfl (fun ls hl => ?_)
  refine lv_goto (tgt := 4) hx hb dX12_atBegin_41 (by decide) ?_
  refine lv_iload_n hx hb dX12_atBegin_4 rfl (lv_at hl 0 rfl) ?_
  refine lv_aload_n hx hb dX12_atBegin_5 rfl (lv_at hl 2 rfl) ?_
  refine va_get (D := (dC, dI)) (ci := 14) (v := .ref rows) (C := RX12) (T := TX12) (N := 12) hx hb hts hiX12 hown hK hP k0 w0 rfl 3 (by decide) hf22 (fun _ h9 => h9) rfl dX12_atBegin_6 ?_
  refine va_callFi (va_runF (As := []) (rest := [.int 1]) (hK.1 1 _ rfl).2 ⟨hx, hb, hml, hown, hts⟩ (c_Jx4a65c_size_8abf5 l dC dI g Wd rows 1 1 (some tb) k1 w1  H_4.size) (va_cwF 0 hts gX12_atBegin_Jx4a65c_size_8abf5_f54Jx4a65c rfl rfl rfl (fw_1 hG) (by decide +kernel) ⟨Nat.le_of_ble_eq_true rfl, Nat.le_of_ble_eq_true rfl⟩) ⟨PG_blind, va_recv hK hP (ci := 1) (q0 := k1) rfl w1, PG_call hK hG hS hP hD (A_all hD hA hS.1)⟩ rfl rfl hl.1 rfl (lv_room (Nat.le_of_ble_eq_true rfl)) dX12_atBegin_9 ⟨Nat.le_of_ble_eq_true rfl, Nat.le_of_ble_eq_true rfl⟩) hS (fun q _ h => (A_all hD hA hS.1) q h) (A_all hD hA hS.1) (fun r_6 u_6 t_6 H_6 L_6 ht_6 hvm_6 hw_6 hB_6 hz_6 hk_6 hS => ?_)
  replace hB_6 := (show va_P (dC, dI) vwCl Wd t_6.heap from hB_6)
  rw [ht_6] at hB_6
  have hP := hB_6
  obtain rfl : r_6 = 1 := hw_6
  refine lv_icmp_ge (tgt := 44) hx hb dX12_atBegin_14 (by decide) (fun c_7 => ?_) (fun c_7 => absurd (by decide) c_7)
  refine lv_iload_n hx hb dX12_atBegin_44 rfl (lv_at hl 1 rfl) ?_
  exact W.iret (v := 0) hx hb hr (fun t ht hW => ⟨⟨0, (), rfl, rfl, P_at ht hP⟩, hS.F ht⟩) hS.2.2 dX12_atBegin_45
set_option maxHeartbeats 4000000 in
set_option maxRecDepth 100000 in
theorem c_X12_isOver_0 (l : Launch) (dC : Nat → ClassId) (dI : Nat → Nat → Nat) (g : Nat → ClassId) (Wd : va_W) (t : Nat) (byy : Nat) (rows : Nat) (made : Nat) (mo : Nat) (tb : Nat) (l1 : Nat) (to : Int32) (k0 : Nat) (w0 : Wd[k0]? = some (t, .inr (14, [.ref byy, .int to, .int 0, .ref rows, .ref made, .int 0, .int 0, .int 0, .int 0, .int 0, .int 0, .ref mo]))) (k1 : Nat) (w1 : Wd[k1]? = some (rows, .inr (1, [.int 1, .ref tb, .int 1]))) (k2 : Nat) (w2 : Wd[k2]? = some (tb, .inl (g 5, 10, .inr (.inr (.inr (.inr (va_up (fun _ => none) 0 (some l1)))))))) (k3 : Nat) (w3 : Wd[k3]? = some (l1, .inr (1, [.int 0, .ref (g 10), .int 0]))) (sz : Nat) : Met l yX12_isOver wsX12_isOver ({ frames := 4, cells := 0, slots := 0, locals := 86 }) (va_Pc [.ref t] (PG (dC, dI) g Wd sz)) (va_Qi (fun (r : Int32) (_ : Unit) => r = 1) (fun (_ : Unit) t => va_P (dC, dI) vwCl Wd t.heap) (va_A Wd sz)) 0 0 (va_A Wd sz) := by
  refine Met.ofW (cc := cX12_isOver) (maxL := 1) (ret := (some .boolean)) (by decide) rfl ?_
  intro p e s m args below meth c s₁ B hml hv
  obtain ⟨rfl, hsz, hP, hK, hD0, hG⟩ := hv
  have hx := B.exec
  have hb := B.bytes
  have hr := B.returns
  have hts := atoms_spec (ws := wsX12_isOver) B.pre
  have hown : s.vm.findClass RX12 = some m.cls := findClass_of_methodNamed B.named
  have hlocks := B.notSynchronized
  subst hsz
  have hD := hD0.self (sz := s.heap.size)
  generalize hAe : va_A Wd s.heap.size = A at hD hG ⊢
  have hA : ∀ q : Nat, s.heap.size ≤ q → A q := fun q h => by rw [← hAe]; exact Or.inr h
  have hS : va_S A s.heap s.heap [] := va_S.rf
  have hl := lv_entry ([.ref t]) (n := 1) (Nat.le_of_ble_eq_true rfl)
  rw [lg_entry_eq]
  generalize (lg_sl ([.ref t]) ++ List.replicate (1 - (lg_sl ([.ref t])).length) Slot.unset).toArray = ls at hl ⊢
  have hl : lv_has ls 1 [(0, .ref t)] := hl
  refine lv_aload_n hx hb dX12_isOver_0 rfl (lv_at hl 0 rfl) ?_
  refine va_calli (va_runV (As := []) (rest := []) ⟨hx, hb, hml, hown, hts⟩ (c_X12_atBegin_0 l dC dI g Wd t byy rows made mo tb l1 to k0 w0 k1 w1 k2 w2 k3 w3  s.heap.size) (cwV 0 hts gX12_isOver_X12_atBegin rfl rfl rfl (by decide +kernel) ⟨Nat.le_of_ble_eq_true rfl, Nat.le_of_ble_eq_true rfl⟩) ⟨PG_blind, va_recv hK hP (ci := 14) (q0 := k0) rfl w0, PG_call hK hG hS hP hD (A_all hD hA hS.1)⟩ rfl rfl hl.1 rfl (lv_room (Nat.le_of_ble_eq_true rfl)) dX12_isOver_1 ⟨Nat.le_of_ble_eq_true rfl, Nat.le_of_ble_eq_true rfl⟩) hS (fun q _ h => (A_all hD hA hS.1) q h) (A_all hD hA hS.1) (fun r_1 u_1 t_1 H_1 L_1 ht_1 hvm_1 hw_1 hB_1 hz_1 hk_1 hS => ?_)
  replace hB_1 := (show va_P (dC, dI) vwCl Wd t_1.heap from hB_1)
  rw [ht_1] at hB_1
  have hP := hB_1
  obtain rfl : r_1 = 0 := hw_1
  refine lv_iconst (v := 1) hx hb dX12_isOver_4 (by decide) ?_
  refine lv_icmp_gt (tgt := 12) hx hb dX12_isOver_5 (by decide) (fun c_2 => absurd c_2 (by decide)) (fun c_2 => ?_)
  refine lv_iconst (v := 1) hx hb dX12_isOver_8 (by decide) ?_
  refine lv_goto (tgt := 13) hx hb dX12_isOver_9 (by decide) ?_
  exact W.zret (v := 1) hx hb hr rfl (fun t ht hW => ⟨⟨1, (), rfl, rfl, P_at ht hP⟩, hS.F ht⟩) hS.2.2 dX12_isOver_13
set_option maxHeartbeats 4000000 in
set_option maxRecDepth 100000 in
theorem c_X12_goes_0 (l : Launch) (dC : Nat → ClassId) (dI : Nat → Nat → Nat) (g : Nat → ClassId) (Wd : va_W) (t : Nat) (byy : Nat) (rows : Nat) (made : Nat) (mo : Nat) (tb : Nat) (l1 : Nat) (to : Int32) (k0 : Nat) (w0 : Wd[k0]? = some (t, .inr (14, [.ref byy, .int to, .int 0, .ref rows, .ref made, .int 0, .int 0, .int 0, .int 0, .int 0, .int 0, .ref mo]))) (k1 : Nat) (w1 : Wd[k1]? = some (rows, .inr (1, [.int 1, .ref tb, .int 1]))) (k2 : Nat) (w2 : Wd[k2]? = some (tb, .inl (g 5, 10, .inr (.inr (.inr (.inr (va_up (fun _ => none) 0 (some l1)))))))) (k3 : Nat) (w3 : Wd[k3]? = some (l1, .inr (1, [.int 0, .ref (g 10), .int 0]))) (sz : Nat) : Met l yX12_goes wsX12_goes ({ frames := 5, cells := 0, slots := 0, locals := 106 }) (va_Pc [.ref t] (PG (dC, dI) g Wd sz)) (va_Qv (fun (_ : Unit) => True) (fun (_ : Unit) t => va_P (dC, dI) vwCl Wd t.heap) (va_A Wd sz)) 0 0 (va_A Wd sz) := by
  refine Met.ofW (cc := cX12_goes) (maxL := 1) (ret := none) (by decide) rfl ?_
  intro p e s m args below meth c s₁ B hml hv
  obtain ⟨rfl, hsz, hP, hK, hD0, hG⟩ := hv
  have hx := B.exec
  have hb := B.bytes
  have hr := B.returns
  have hts := atoms_spec (ws := wsX12_goes) B.pre
  have hown : s.vm.findClass RX12 = some m.cls := findClass_of_methodNamed B.named
  have hlocks := B.notSynchronized
  subst hsz
  have hD := hD0.self (sz := s.heap.size)
  generalize hAe : va_A Wd s.heap.size = A at hD hG ⊢
  have hA : ∀ q : Nat, s.heap.size ≤ q → A q := fun q h => by rw [← hAe]; exact Or.inr h
  have hS : va_S A s.heap s.heap [] := va_S.rf
  have hl := lv_entry ([.ref t]) (n := 1) (Nat.le_of_ble_eq_true rfl)
  rw [lg_entry_eq]
  generalize (lg_sl ([.ref t]) ++ List.replicate (1 - (lg_sl ([.ref t])).length) Slot.unset).toArray = ls at hl ⊢
  have hl : lv_has ls 1 [(0, .ref t)] := hl
  refine lv_aload_n hx hb dX12_goes_0 rfl (lv_at hl 0 rfl) ?_
  refine va_calli (va_runV (As := []) (rest := []) ⟨hx, hb, hml, hown, hts⟩ (c_X12_isOver_0 l dC dI g Wd t byy rows made mo tb l1 to k0 w0 k1 w1 k2 w2 k3 w3  s.heap.size) (cwV 0 hts gX12_goes_X12_isOver rfl rfl rfl (by decide +kernel) ⟨Nat.le_of_ble_eq_true rfl, Nat.le_of_ble_eq_true rfl⟩) ⟨PG_blind, va_recv hK hP (ci := 14) (q0 := k0) rfl w0, PG_call hK hG hS hP hD (A_all hD hA hS.1)⟩ rfl rfl hl.1 rfl (lv_room (Nat.le_of_ble_eq_true rfl)) dX12_goes_1 ⟨Nat.le_of_ble_eq_true rfl, Nat.le_of_ble_eq_true rfl⟩) hS (fun q _ h => (A_all hD hA hS.1) q h) (A_all hD hA hS.1) (fun r_1 u_1 t_1 H_1 L_1 ht_1 hvm_1 hw_1 hB_1 hz_1 hk_1 hS => ?_)
  replace hB_1 := (show va_P (dC, dI) vwCl Wd t_1.heap from hB_1)
  rw [ht_1] at hB_1
  have hP := hB_1
  obtain rfl : r_1 = 1 := hw_1
  refine lv_if_ne (tgt := 14) hx hb dX12_goes_4 (by decide) (fun c_2 => ?_) (fun c_2 => absurd c_2 (by decide))
  exact W.vret hx hb hr (fun t ht hW => ⟨⟨(), rfl, trivial, P_at ht hP⟩, hS.F ht⟩) hS.2.2 dX12_goes_14
set_option maxHeartbeats 4000000 in
set_option maxRecDepth 100000 in
theorem c_X12_atBegin_2 (l : Launch) (dC : Nat → ClassId) (dI : Nat → Nat → Nat) (g : Nat → ClassId) (Wd : va_W) (t : Nat) (byy : Nat) (rows : Nat) (made : Nat) (mo : Nat) (tb : Nat) (l1 : Nat) (l2 : Nat) (to : Int32) (k0 : Nat) (w0 : Wd[k0]? = some (t, .inr (14, [.ref byy, .int to, .int 0, .ref rows, .ref made, .int 0, .int 0, .int 0, .int 0, .int 0, .int 0, .ref mo]))) (k1 : Nat) (w1 : Wd[k1]? = some (rows, .inr (1, [.int 2, .ref tb, .int 2]))) (k2 : Nat) (w2 : Wd[k2]? = some (tb, .inl (g 5, 10, .inr (.inr (.inr (.inr (va_up (va_up (fun _ => none) 0 (some l1)) 1 (some l2)))))))) (k3 : Nat) (w3 : Wd[k3]? = some (l1, .inr (1, [.int 0, .ref (g 10), .int 0]))) (k4 : Nat) (w4 : Wd[k4]? = some (l2, .inr (1, [.int 0, .ref (g 10), .int 0]))) (sz : Nat) : Met l yX12_atBegin wsX12_atBegin ({ frames := 3, cells := 0, slots := 0, locals := 64 }) (va_Pc [.ref t] (PG (dC, dI) g Wd sz)) (va_Qi (fun (r : Int32) (_ : Unit) => r = 0) (fun (_ : Unit) t => va_P (dC, dI) vwCl Wd t.heap) (va_A Wd sz)) 0 0 (va_A Wd sz) := by
  refine Met.ofW (cc := cX12_atBegin) (maxL := 3) (ret := (some .int)) (by decide) rfl ?_
  intro p e s m args below meth c s₁ B hml hv
  obtain ⟨rfl, hsz, hP, hK, hD0, hG⟩ := hv
  have hx := B.exec
  have hb := B.bytes
  have hr := B.returns
  have hts := atoms_spec (ws := wsX12_atBegin) B.pre
  have hown : s.vm.findClass RX12 = some m.cls := findClass_of_methodNamed B.named
  have hlocks := B.notSynchronized
  subst hsz
  have hD := hD0.self (sz := s.heap.size)
  generalize hAe : va_A Wd s.heap.size = A at hD hG ⊢
  have hA : ∀ q : Nat, s.heap.size ≤ q → A q := fun q h => by rw [← hAe]; exact Or.inr h
  have hS : va_S A s.heap s.heap [] := va_S.rf
  have hl := lv_entry ([.ref t]) (n := 3) (Nat.le_of_ble_eq_true rfl)
  rw [lg_entry_eq]
  generalize (lg_sl ([.ref t]) ++ List.replicate (3 - (lg_sl ([.ref t])).length) Slot.unset).toArray = ls at hl ⊢
  have hl : lv_has ls 3 [(0, .ref t)] := hl
  have hf22 := hts (Cond.fieldLink RX12 22 "RunmergeOfficeModel$Job" "rows" "Ljava/util/List;") (by decide +kernel)
  have hiX12 : ∀ w ∈ u_ws RX12 TX12 12, w ∈ wsX12_atBegin := by decide +kernel
  have hcl45 := hts (Cond.classLink RX12 45 "java/util/List") (by decide +kernel)
  refine lv_iconst (v := 0) hx hb dX12_atBegin_0 (by decide) ?_
  refine lv_istore_n (lv' := [(1, .int 0), (0, .ref t)]) hx hb dX12_atBegin_1 rfl hl (by decide) rfl (fun ls hl => ?_)
  refine lv_iconst (v := 0) hx hb dX12_atBegin_2 (by decide) ?_
  refine lv_istore_n (lv' := [(2, .int 0), (1, .int 0), (0, .ref t)]) hx hb dX12_atBegin_3 rfl hl (by decide) rfl (fun ls hl => ?_)
  refine lv_iload_n hx hb dX12_atBegin_4 rfl (lv_at hl 0 rfl) ?_
  refine lv_aload_n hx hb dX12_atBegin_5 rfl (lv_at hl 2 rfl) ?_
  refine va_get (D := (dC, dI)) (ci := 14) (v := .ref rows) (C := RX12) (T := TX12) (N := 12) hx hb hts hiX12 hown hK hP k0 w0 rfl 3 (by decide) hf22 (fun _ h9 => h9) rfl dX12_atBegin_6 ?_
  refine va_callFi (va_runF (As := []) (rest := [.int 0]) (hK.1 1 _ rfl).2 ⟨hx, hb, hml, hown, hts⟩ (c_Jx4a65c_size_8abf5 l dC dI g Wd rows 2 2 (some tb) k1 w1  s.heap.size) (va_cwF 0 hts gX12_atBegin_Jx4a65c_size_8abf5_f54Jx4a65c rfl rfl rfl (fw_1 hG) (by decide +kernel) ⟨Nat.le_of_ble_eq_true rfl, Nat.le_of_ble_eq_true rfl⟩) ⟨PG_blind, va_recv hK hP (ci := 1) (q0 := k1) rfl w1, PG_call hK hG hS hP hD (A_all hD hA hS.1)⟩ rfl rfl hl.1 rfl (lv_room (Nat.le_of_ble_eq_true rfl)) dX12_atBegin_9 ⟨Nat.le_of_ble_eq_true rfl, Nat.le_of_ble_eq_true rfl⟩) hS (fun q _ h => (A_all hD hA hS.1) q h) (A_all hD hA hS.1) (fun r_1 u_1 t_1 H_1 L_1 ht_1 hvm_1 hw_1 hB_1 hz_1 hk_1 hS => ?_)
  replace hB_1 := (show va_P (dC, dI) vwCl Wd t_1.heap from hB_1)
  rw [ht_1] at hB_1
  have hP := hB_1
  obtain rfl : r_1 = 2 := hw_1
  refine lv_icmp_ge (tgt := 44) hx hb dX12_atBegin_14 (by decide) (fun c_2 => absurd c_2 (by decide)) (fun c_2 => ?_)
  refine lv_iload_n hx hb dX12_atBegin_17 rfl (lv_at hl 1 rfl) ?_
  refine lv_aload_n hx hb dX12_atBegin_18 rfl (lv_at hl 2 rfl) ?_
  refine va_get (D := (dC, dI)) (ci := 14) (v := .ref rows) (C := RX12) (T := TX12) (N := 12) hx hb hts hiX12 hown hK hP k0 w0 rfl 3 (by decide) hf22 (fun _ h9 => h9) rfl dX12_atBegin_19 ?_
  refine lv_iload_n hx hb dX12_atBegin_22 rfl (lv_at hl 0 rfl) ?_
  refine va_callFq (va_runF (As := [.int 0]) (rest := [.int 0]) (hK.1 1 _ rfl).2 ⟨hx, hb, hml, hown, hts⟩ (c_Jx4a65c_get_915e3_02 l dC dI g Wd rows tb l1 2 (va_up (va_up (fun _ => none) 0 (some l1)) 1 (some l2)) k1 w1 k2 w2 rfl H_1.size) (va_cwF 1 hts gX12_atBegin_Jx4a65c_get_915e3_f65Jx4a65c rfl rfl rfl (fw_3 hG) (by decide +kernel) ⟨Nat.le_of_ble_eq_true rfl, Nat.le_of_ble_eq_true rfl⟩) ⟨PG_blind, va_recv hK hP (ci := 1) (q0 := k1) rfl w1, PG_call hK hG hS hP hD (A_all hD hA hS.1)⟩ rfl rfl hl.1 rfl (lv_room (Nat.le_of_ble_eq_true rfl)) dX12_atBegin_23 ⟨Nat.le_of_ble_eq_true rfl, Nat.le_of_ble_eq_true rfl⟩) hS (fun q _ h => (A_all hD hA hS.1) q h) (A_all hD hA hS.1) (fun r_3 u_3 t_3 H_3 L_3 ht_3 hvm_3 hw_3 hB_3 hz_3 hk_3 hS => ?_)
  replace hB_3 := (show va_P (dC, dI) vwCl Wd t_3.heap from hB_3)
  rw [ht_3] at hB_3
  have hP := hB_3
  obtain rfl : r_3 = some l1 := hw_3
  refine W.eq (g2 := F0 m 28 ls [.ref l1, .int 0]) rfl ?_
  refine va_castY hx hb hown hcl45 (cc_0 hG) (va_recv hK hP (ci := 1) (q0 := k3) rfl w3) dX12_atBegin_28 ?_
  refine va_callFi (va_runF (As := []) (rest := [.int 0]) (hK.1 1 _ rfl).2 ⟨hx, hb, hml, hown, hts⟩ (c_Jx4a65c_size_8abf5 l dC dI g Wd l1 0 0 (some (g 10)) k3 w3  H_3.size) (va_cwF 0 hts gX12_atBegin_Jx4a65c_size_8abf5_f54Jx4a65c rfl rfl rfl (fw_1 hG) (by decide +kernel) ⟨Nat.le_of_ble_eq_true rfl, Nat.le_of_ble_eq_true rfl⟩) ⟨PG_blind, va_recv hK hP (ci := 1) (q0 := k3) rfl w3, PG_call hK hG hS hP hD (A_all hD hA hS.1)⟩ rfl rfl hl.1 rfl (lv_room (Nat.le_of_ble_eq_true rfl)) dX12_atBegin_31 ⟨Nat.le_of_ble_eq_true rfl, Nat.le_of_ble_eq_true rfl⟩) hS (fun q _ h => (A_all hD hA hS.1) q h) (A_all hD hA hS.1) (fun r_4 u_4 t_4 H_4 L_4 ht_4 hvm_4 hw_4 hB_4 hz_4 hk_4 hS => ?_)
  replace hB_4 := (show va_P (dC, dI) vwCl Wd t_4.heap from hB_4)
  rw [ht_4] at hB_4
  have hP := hB_4
  obtain rfl : r_4 = 0 := hw_4
  refine lv_iadd hx hb dX12_atBegin_36 ?_
  refine lv_topi (fun x_5 ex_5 => ?_)
  obtain rfl : x_5 = 0 := ex_5.trans (by decide)
  refine lv_istore_n (lv' := [(1, .int 0), (2, .int 0), (0, .ref t)]) hx hb dX12_atBegin_37 rfl hl (by decide) rfl (fun ls hl => ?_)
  refine lv_iinc (v := 1) (lv' := [(2, .int 1), (1, .int 0), (0, .ref t)]) hx hb dX12_atBegin_38 hl (k := 1) rfl (by decide) (by decide) rfl (fun ls hl => ?_)
  refine lv_goto (tgt := 4) hx hb dX12_atBegin_41 (by decide) ?_
  refine lv_iload_n hx hb dX12_atBegin_4 rfl (lv_at hl 0 rfl) ?_
  refine lv_aload_n hx hb dX12_atBegin_5 rfl (lv_at hl 2 rfl) ?_
  refine va_get (D := (dC, dI)) (ci := 14) (v := .ref rows) (C := RX12) (T := TX12) (N := 12) hx hb hts hiX12 hown hK hP k0 w0 rfl 3 (by decide) hf22 (fun _ h9 => h9) rfl dX12_atBegin_6 ?_
  refine va_callFi (va_runF (As := []) (rest := [.int 1]) (hK.1 1 _ rfl).2 ⟨hx, hb, hml, hown, hts⟩ (c_Jx4a65c_size_8abf5 l dC dI g Wd rows 2 2 (some tb) k1 w1  H_4.size) (va_cwF 0 hts gX12_atBegin_Jx4a65c_size_8abf5_f54Jx4a65c rfl rfl rfl (fw_1 hG) (by decide +kernel) ⟨Nat.le_of_ble_eq_true rfl, Nat.le_of_ble_eq_true rfl⟩) ⟨PG_blind, va_recv hK hP (ci := 1) (q0 := k1) rfl w1, PG_call hK hG hS hP hD (A_all hD hA hS.1)⟩ rfl rfl hl.1 rfl (lv_room (Nat.le_of_ble_eq_true rfl)) dX12_atBegin_9 ⟨Nat.le_of_ble_eq_true rfl, Nat.le_of_ble_eq_true rfl⟩) hS (fun q _ h => (A_all hD hA hS.1) q h) (A_all hD hA hS.1) (fun r_6 u_6 t_6 H_6 L_6 ht_6 hvm_6 hw_6 hB_6 hz_6 hk_6 hS => ?_)
  replace hB_6 := (show va_P (dC, dI) vwCl Wd t_6.heap from hB_6)
  rw [ht_6] at hB_6
  have hP := hB_6
  obtain rfl : r_6 = 2 := hw_6
  refine lv_icmp_ge (tgt := 44) hx hb dX12_atBegin_14 (by decide) (fun c_7 => absurd c_7 (by decide)) (fun c_7 => ?_)
  refine lv_iload_n hx hb dX12_atBegin_17 rfl (lv_at hl 1 rfl) ?_
  refine lv_aload_n hx hb dX12_atBegin_18 rfl (lv_at hl 2 rfl) ?_
  refine va_get (D := (dC, dI)) (ci := 14) (v := .ref rows) (C := RX12) (T := TX12) (N := 12) hx hb hts hiX12 hown hK hP k0 w0 rfl 3 (by decide) hf22 (fun _ h9 => h9) rfl dX12_atBegin_19 ?_
  refine lv_iload_n hx hb dX12_atBegin_22 rfl (lv_at hl 0 rfl) ?_
  refine va_callFq (va_runF (As := [.int 1]) (rest := [.int 0]) (hK.1 1 _ rfl).2 ⟨hx, hb, hml, hown, hts⟩ (c_Jx4a65c_get_915e3_12 l dC dI g Wd rows tb l2 2 (va_up (va_up (fun _ => none) 0 (some l1)) 1 (some l2)) k1 w1 k2 w2 rfl H_6.size) (va_cwF 1 hts gX12_atBegin_Jx4a65c_get_915e3_f65Jx4a65c rfl rfl rfl (fw_3 hG) (by decide +kernel) ⟨Nat.le_of_ble_eq_true rfl, Nat.le_of_ble_eq_true rfl⟩) ⟨PG_blind, va_recv hK hP (ci := 1) (q0 := k1) rfl w1, PG_call hK hG hS hP hD (A_all hD hA hS.1)⟩ rfl rfl hl.1 rfl (lv_room (Nat.le_of_ble_eq_true rfl)) dX12_atBegin_23 ⟨Nat.le_of_ble_eq_true rfl, Nat.le_of_ble_eq_true rfl⟩) hS (fun q _ h => (A_all hD hA hS.1) q h) (A_all hD hA hS.1) (fun r_8 u_8 t_8 H_8 L_8 ht_8 hvm_8 hw_8 hB_8 hz_8 hk_8 hS => ?_)
  replace hB_8 := (show va_P (dC, dI) vwCl Wd t_8.heap from hB_8)
  rw [ht_8] at hB_8
  have hP := hB_8
  obtain rfl : r_8 = some l2 := hw_8
  refine W.eq (g2 := F0 m 28 ls [.ref l2, .int 0]) rfl ?_
  refine va_castY hx hb hown hcl45 (cc_0 hG) (va_recv hK hP (ci := 1) (q0 := k4) rfl w4) dX12_atBegin_28 ?_
  refine va_callFi (va_runF (As := []) (rest := [.int 0]) (hK.1 1 _ rfl).2 ⟨hx, hb, hml, hown, hts⟩ (c_Jx4a65c_size_8abf5 l dC dI g Wd l2 0 0 (some (g 10)) k4 w4  H_8.size) (va_cwF 0 hts gX12_atBegin_Jx4a65c_size_8abf5_f54Jx4a65c rfl rfl rfl (fw_1 hG) (by decide +kernel) ⟨Nat.le_of_ble_eq_true rfl, Nat.le_of_ble_eq_true rfl⟩) ⟨PG_blind, va_recv hK hP (ci := 1) (q0 := k4) rfl w4, PG_call hK hG hS hP hD (A_all hD hA hS.1)⟩ rfl rfl hl.1 rfl (lv_room (Nat.le_of_ble_eq_true rfl)) dX12_atBegin_31 ⟨Nat.le_of_ble_eq_true rfl, Nat.le_of_ble_eq_true rfl⟩) hS (fun q _ h => (A_all hD hA hS.1) q h) (A_all hD hA hS.1) (fun r_9 u_9 t_9 H_9 L_9 ht_9 hvm_9 hw_9 hB_9 hz_9 hk_9 hS => ?_)
  replace hB_9 := (show va_P (dC, dI) vwCl Wd t_9.heap from hB_9)
  rw [ht_9] at hB_9
  have hP := hB_9
  obtain rfl : r_9 = 0 := hw_9
  refine lv_iadd hx hb dX12_atBegin_36 ?_
  refine lv_topi (fun x_10 ex_10 => ?_)
  obtain rfl : x_10 = 0 := ex_10.trans (by decide)
  refine lv_istore_n (lv' := [(1, .int 0), (2, .int 1), (0, .ref t)]) hx hb dX12_atBegin_37 rfl hl (by decide) rfl (fun ls hl => ?_)
  refine lv_iinc (v := 2) (lv' := [(2, .int 2), (1, .int 0), (0, .ref t)]) hx hb dX12_atBegin_38 hl (k := 1) rfl (by decide) (by decide) rfl (fun ls hl => ?_)
  refine lv_goto (tgt := 4) hx hb dX12_atBegin_41 (by decide) ?_
  refine lv_iload_n hx hb dX12_atBegin_4 rfl (lv_at hl 0 rfl) ?_
  refine lv_aload_n hx hb dX12_atBegin_5 rfl (lv_at hl 2 rfl) ?_
  refine va_get (D := (dC, dI)) (ci := 14) (v := .ref rows) (C := RX12) (T := TX12) (N := 12) hx hb hts hiX12 hown hK hP k0 w0 rfl 3 (by decide) hf22 (fun _ h9 => h9) rfl dX12_atBegin_6 ?_
  refine va_callFi (va_runF (As := []) (rest := [.int 2]) (hK.1 1 _ rfl).2 ⟨hx, hb, hml, hown, hts⟩ (c_Jx4a65c_size_8abf5 l dC dI g Wd rows 2 2 (some tb) k1 w1  H_9.size) (va_cwF 0 hts gX12_atBegin_Jx4a65c_size_8abf5_f54Jx4a65c rfl rfl rfl (fw_1 hG) (by decide +kernel) ⟨Nat.le_of_ble_eq_true rfl, Nat.le_of_ble_eq_true rfl⟩) ⟨PG_blind, va_recv hK hP (ci := 1) (q0 := k1) rfl w1, PG_call hK hG hS hP hD (A_all hD hA hS.1)⟩ rfl rfl hl.1 rfl (lv_room (Nat.le_of_ble_eq_true rfl)) dX12_atBegin_9 ⟨Nat.le_of_ble_eq_true rfl, Nat.le_of_ble_eq_true rfl⟩) hS (fun q _ h => (A_all hD hA hS.1) q h) (A_all hD hA hS.1) (fun r_11 u_11 t_11 H_11 L_11 ht_11 hvm_11 hw_11 hB_11 hz_11 hk_11 hS => ?_)
  replace hB_11 := (show va_P (dC, dI) vwCl Wd t_11.heap from hB_11)
  rw [ht_11] at hB_11
  have hP := hB_11
  obtain rfl : r_11 = 2 := hw_11
  refine lv_icmp_ge (tgt := 44) hx hb dX12_atBegin_14 (by decide) (fun c_12 => ?_) (fun c_12 => absurd (by decide) c_12)
  refine lv_iload_n hx hb dX12_atBegin_44 rfl (lv_at hl 1 rfl) ?_
  exact W.iret (v := 0) hx hb hr (fun t ht hW => ⟨⟨0, (), rfl, rfl, P_at ht hP⟩, hS.F ht⟩) hS.2.2 dX12_atBegin_45
set_option maxHeartbeats 4000000 in
set_option maxRecDepth 100000 in
theorem c_X12_isOver_2 (l : Launch) (dC : Nat → ClassId) (dI : Nat → Nat → Nat) (g : Nat → ClassId) (Wd : va_W) (t : Nat) (byy : Nat) (rows : Nat) (made : Nat) (mo : Nat) (tb : Nat) (l1 : Nat) (l2 : Nat) (to : Int32) (k0 : Nat) (w0 : Wd[k0]? = some (t, .inr (14, [.ref byy, .int to, .int 0, .ref rows, .ref made, .int 0, .int 0, .int 0, .int 0, .int 0, .int 0, .ref mo]))) (k1 : Nat) (w1 : Wd[k1]? = some (rows, .inr (1, [.int 2, .ref tb, .int 2]))) (k2 : Nat) (w2 : Wd[k2]? = some (tb, .inl (g 5, 10, .inr (.inr (.inr (.inr (va_up (va_up (fun _ => none) 0 (some l1)) 1 (some l2)))))))) (k3 : Nat) (w3 : Wd[k3]? = some (l1, .inr (1, [.int 0, .ref (g 10), .int 0]))) (k4 : Nat) (w4 : Wd[k4]? = some (l2, .inr (1, [.int 0, .ref (g 10), .int 0]))) (sz : Nat) : Met l yX12_isOver wsX12_isOver ({ frames := 4, cells := 0, slots := 0, locals := 86 }) (va_Pc [.ref t] (PG (dC, dI) g Wd sz)) (va_Qi (fun (r : Int32) (_ : Unit) => r = 1) (fun (_ : Unit) t => va_P (dC, dI) vwCl Wd t.heap) (va_A Wd sz)) 0 0 (va_A Wd sz) := by
  refine Met.ofW (cc := cX12_isOver) (maxL := 1) (ret := (some .boolean)) (by decide) rfl ?_
  intro p e s m args below meth c s₁ B hml hv
  obtain ⟨rfl, hsz, hP, hK, hD0, hG⟩ := hv
  have hx := B.exec
  have hb := B.bytes
  have hr := B.returns
  have hts := atoms_spec (ws := wsX12_isOver) B.pre
  have hown : s.vm.findClass RX12 = some m.cls := findClass_of_methodNamed B.named
  have hlocks := B.notSynchronized
  subst hsz
  have hD := hD0.self (sz := s.heap.size)
  generalize hAe : va_A Wd s.heap.size = A at hD hG ⊢
  have hA : ∀ q : Nat, s.heap.size ≤ q → A q := fun q h => by rw [← hAe]; exact Or.inr h
  have hS : va_S A s.heap s.heap [] := va_S.rf
  have hl := lv_entry ([.ref t]) (n := 1) (Nat.le_of_ble_eq_true rfl)
  rw [lg_entry_eq]
  generalize (lg_sl ([.ref t]) ++ List.replicate (1 - (lg_sl ([.ref t])).length) Slot.unset).toArray = ls at hl ⊢
  have hl : lv_has ls 1 [(0, .ref t)] := hl
  refine lv_aload_n hx hb dX12_isOver_0 rfl (lv_at hl 0 rfl) ?_
  refine va_calli (va_runV (As := []) (rest := []) ⟨hx, hb, hml, hown, hts⟩ (c_X12_atBegin_2 l dC dI g Wd t byy rows made mo tb l1 l2 to k0 w0 k1 w1 k2 w2 k3 w3 k4 w4  s.heap.size) (cwV 0 hts gX12_isOver_X12_atBegin rfl rfl rfl (by decide +kernel) ⟨Nat.le_of_ble_eq_true rfl, Nat.le_of_ble_eq_true rfl⟩) ⟨PG_blind, va_recv hK hP (ci := 14) (q0 := k0) rfl w0, PG_call hK hG hS hP hD (A_all hD hA hS.1)⟩ rfl rfl hl.1 rfl (lv_room (Nat.le_of_ble_eq_true rfl)) dX12_isOver_1 ⟨Nat.le_of_ble_eq_true rfl, Nat.le_of_ble_eq_true rfl⟩) hS (fun q _ h => (A_all hD hA hS.1) q h) (A_all hD hA hS.1) (fun r_1 u_1 t_1 H_1 L_1 ht_1 hvm_1 hw_1 hB_1 hz_1 hk_1 hS => ?_)
  replace hB_1 := (show va_P (dC, dI) vwCl Wd t_1.heap from hB_1)
  rw [ht_1] at hB_1
  have hP := hB_1
  obtain rfl : r_1 = 0 := hw_1
  refine lv_iconst (v := 1) hx hb dX12_isOver_4 (by decide) ?_
  refine lv_icmp_gt (tgt := 12) hx hb dX12_isOver_5 (by decide) (fun c_2 => absurd c_2 (by decide)) (fun c_2 => ?_)
  refine lv_iconst (v := 1) hx hb dX12_isOver_8 (by decide) ?_
  refine lv_goto (tgt := 13) hx hb dX12_isOver_9 (by decide) ?_
  exact W.zret (v := 1) hx hb hr rfl (fun t ht hW => ⟨⟨1, (), rfl, rfl, P_at ht hP⟩, hS.F ht⟩) hS.2.2 dX12_isOver_13
set_option maxHeartbeats 4000000 in
set_option maxRecDepth 100000 in
theorem c_X12_goes_2 (l : Launch) (dC : Nat → ClassId) (dI : Nat → Nat → Nat) (g : Nat → ClassId) (Wd : va_W) (t : Nat) (byy : Nat) (rows : Nat) (made : Nat) (mo : Nat) (tb : Nat) (l1 : Nat) (l2 : Nat) (to : Int32) (k0 : Nat) (w0 : Wd[k0]? = some (t, .inr (14, [.ref byy, .int to, .int 0, .ref rows, .ref made, .int 0, .int 0, .int 0, .int 0, .int 0, .int 0, .ref mo]))) (k1 : Nat) (w1 : Wd[k1]? = some (rows, .inr (1, [.int 2, .ref tb, .int 2]))) (k2 : Nat) (w2 : Wd[k2]? = some (tb, .inl (g 5, 10, .inr (.inr (.inr (.inr (va_up (va_up (fun _ => none) 0 (some l1)) 1 (some l2)))))))) (k3 : Nat) (w3 : Wd[k3]? = some (l1, .inr (1, [.int 0, .ref (g 10), .int 0]))) (k4 : Nat) (w4 : Wd[k4]? = some (l2, .inr (1, [.int 0, .ref (g 10), .int 0]))) (sz : Nat) : Met l yX12_goes wsX12_goes ({ frames := 5, cells := 0, slots := 0, locals := 106 }) (va_Pc [.ref t] (PG (dC, dI) g Wd sz)) (va_Qv (fun (_ : Unit) => True) (fun (_ : Unit) t => va_P (dC, dI) vwCl Wd t.heap) (va_A Wd sz)) 0 0 (va_A Wd sz) := by
  refine Met.ofW (cc := cX12_goes) (maxL := 1) (ret := none) (by decide) rfl ?_
  intro p e s m args below meth c s₁ B hml hv
  obtain ⟨rfl, hsz, hP, hK, hD0, hG⟩ := hv
  have hx := B.exec
  have hb := B.bytes
  have hr := B.returns
  have hts := atoms_spec (ws := wsX12_goes) B.pre
  have hown : s.vm.findClass RX12 = some m.cls := findClass_of_methodNamed B.named
  have hlocks := B.notSynchronized
  subst hsz
  have hD := hD0.self (sz := s.heap.size)
  generalize hAe : va_A Wd s.heap.size = A at hD hG ⊢
  have hA : ∀ q : Nat, s.heap.size ≤ q → A q := fun q h => by rw [← hAe]; exact Or.inr h
  have hS : va_S A s.heap s.heap [] := va_S.rf
  have hl := lv_entry ([.ref t]) (n := 1) (Nat.le_of_ble_eq_true rfl)
  rw [lg_entry_eq]
  generalize (lg_sl ([.ref t]) ++ List.replicate (1 - (lg_sl ([.ref t])).length) Slot.unset).toArray = ls at hl ⊢
  have hl : lv_has ls 1 [(0, .ref t)] := hl
  refine lv_aload_n hx hb dX12_goes_0 rfl (lv_at hl 0 rfl) ?_
  refine va_calli (va_runV (As := []) (rest := []) ⟨hx, hb, hml, hown, hts⟩ (c_X12_isOver_2 l dC dI g Wd t byy rows made mo tb l1 l2 to k0 w0 k1 w1 k2 w2 k3 w3 k4 w4  s.heap.size) (cwV 0 hts gX12_goes_X12_isOver rfl rfl rfl (by decide +kernel) ⟨Nat.le_of_ble_eq_true rfl, Nat.le_of_ble_eq_true rfl⟩) ⟨PG_blind, va_recv hK hP (ci := 14) (q0 := k0) rfl w0, PG_call hK hG hS hP hD (A_all hD hA hS.1)⟩ rfl rfl hl.1 rfl (lv_room (Nat.le_of_ble_eq_true rfl)) dX12_goes_1 ⟨Nat.le_of_ble_eq_true rfl, Nat.le_of_ble_eq_true rfl⟩) hS (fun q _ h => (A_all hD hA hS.1) q h) (A_all hD hA hS.1) (fun r_1 u_1 t_1 H_1 L_1 ht_1 hvm_1 hw_1 hB_1 hz_1 hk_1 hS => ?_)
  replace hB_1 := (show va_P (dC, dI) vwCl Wd t_1.heap from hB_1)
  rw [ht_1] at hB_1
  have hP := hB_1
  obtain rfl : r_1 = 1 := hw_1
  refine lv_if_ne (tgt := 14) hx hb dX12_goes_4 (by decide) (fun c_2 => ?_) (fun c_2 => absurd c_2 (by decide))
  exact W.vret hx hb hr (fun t ht hW => ⟨⟨(), rfl, trivial, P_at ht hP⟩, hS.F ht⟩) hS.2.2 dX12_goes_14
