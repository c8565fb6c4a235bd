theorem dX13_rowOf_0 : decode cX13_rowOf 0 = .ok (.aload_n 0, 1) := by decide +kernel
set_option maxRecDepth 20000 in
theorem ggX13_rowOf_Jx4a65c_size_8abf5 : GoodIn wsX13_rowOf wsJx4a65c_size_8abf5 := goodIn_r _ [7, 8, 32, 33, 34] (by decide +kernel) (by decide +kernel)
set_option maxRecDepth 20000 in
theorem gX13_rowOf_Jx4a65c_size_8abf5_f79Jx4a65c : GoodIn wsX13_rowOf (va_wsF RX13 79 RJx4a65c ⟨"java/util/List", "size", "()I"⟩ yJx4a65c_size_8abf5 wsJx4a65c_size_8abf5) := goodIn_app (goodIn_of _ (by decide +kernel)) ggX13_rowOf_Jx4a65c_size_8abf5
theorem dX13_rowOf_1 : decode cX13_rowOf 1 = .ok (.invokeinterface 79 1, 5) := by decide +kernel
theorem dX13_rowOf_6 : decode cX13_rowOf 6 = .ok (.newarray .int, 2) := by decide +kernel
theorem dX13_rowOf_8 : decode cX13_rowOf 8 = .ok (.astore_n 1, 1) := by decide +kernel
theorem dX13_rowOf_9 : decode cX13_rowOf 9 = .ok (.iconst 0, 1) := by decide +kernel
theorem dX13_rowOf_10 : decode cX13_rowOf 10 = .ok (.istore_n 2, 1) := by decide +kernel
theorem dX13_rowOf_11 : decode cX13_rowOf 11 = .ok (.iload_n 2, 1) := by decide +kernel
theorem dX13_rowOf_12 : decode cX13_rowOf 12 = .ok (.aload_n 1, 1) := by decide +kernel
theorem dX13_rowOf_13 : decode cX13_rowOf 13 = .ok (.arraylength, 1) := by decide +kernel
theorem dX13_rowOf_14 : decode cX13_rowOf 14 = .ok (.if_icmp .ge 25, 3) := by decide +kernel
theorem dX13_rowOf_39 : decode cX13_rowOf 39 = .ok (.aload_n 1, 1) := by decide +kernel
theorem dX13_rowOf_40 : decode cX13_rowOf 40 = .ok (.areturn, 1) := by decide +kernel
theorem dX13_thinned_0 : decode cX13_thinned 0 = .ok (.new 98, 3) := by decide +kernel
theorem dX13_thinned_3 : decode cX13_thinned 3 = .ok (.dup, 1) := by decide +kernel
set_option maxRecDepth 20000 in
theorem ggX13_thinned_Jx4a65c_init_da8c8 : GoodIn wsX13_thinned wsJx4a65c_init_da8c8 := goodIn_r _ [7, 8, 9, 10, 11, 12, 13, 14, 15, 16, 17, 18, 19, 20, 21, 125, 126, 127] (by decide +kernel) (by decide +kernel)
set_option maxRecDepth 20000 in
theorem gX13_thinned_Jx4a65c_init_da8c8 : GoodIn wsX13_thinned (wsJx4a65c_init_da8c8) := ggX13_thinned_Jx4a65c_init_da8c8
theorem dX13_thinned_4 : decode cX13_thinned 4 = .ok (.invokespecial 100, 3) := by decide +kernel
theorem dX13_thinned_7 : decode cX13_thinned 7 = .ok (.astore_n 3, 1) := by decide +kernel
theorem dX13_thinned_8 : decode cX13_thinned 8 = .ok (.iconst 0, 1) := by decide +kernel
theorem dX13_thinned_9 : decode cX13_thinned 9 = .ok (.istore 4, 2) := by decide +kernel
theorem dX13_thinned_11 : decode cX13_thinned 11 = .ok (.iload 4, 2) := by decide +kernel
theorem dX13_thinned_13 : decode cX13_thinned 13 = .ok (.aload_n 1, 1) := by decide +kernel
theorem dX13_thinned_14 : decode cX13_thinned 14 = .ok (.arraylength, 1) := by decide +kernel
theorem dX13_thinned_15 : decode cX13_thinned 15 = .ok (.if_icmp .ge 75, 3) := by decide +kernel
theorem dX13_thinned_90 : decode cX13_thinned 90 = .ok (.aload_n 3, 1) := by decide +kernel
set_option maxRecDepth 20000 in
theorem ggX13_thinned_X13_rowOf : GoodIn wsX13_thinned wsX13_rowOf := goodIn_r _ [98, 99, 100, 101, 102, 103, 3, 104, 49, 105, 106, 107, 108, 109, 110, 111, 112, 113, 114, 115, 116, 117, 118, 119, 120, 9, 121, 122, 123, 28, 124, 37, 125, 126, 127, 142] (by decide +kernel) (by decide +kernel)
set_option maxRecDepth 20000 in
theorem gX13_thinned_X13_rowOf : GoodIn wsX13_thinned (va_wsS RX13 134 yX13_rowOf wsX13_rowOf) := goodIn_app (goodIn_of _ (by decide +kernel)) ggX13_thinned_X13_rowOf
theorem dX13_thinned_91 : decode cX13_thinned 91 = .ok (.invokestatic 134, 3) := by decide +kernel
theorem dX13_thinned_94 : decode cX13_thinned 94 = .ok (.areturn, 1) := by decide +kernel
theorem dX13_thin_0 : decode cX13_thin 0 = .ok (.aload_n 0, 1) := by decide +kernel
theorem dX13_thin_1 : decode cX13_thin 1 = .ok (.iload_n 1, 1) := by decide +kernel
set_option maxRecDepth 20000 in
theorem ggX13_thin_X13_isTape : GoodIn wsX13_thin wsX13_isTape := goodIn_r _ [5, 6, 7, 4, 8] (by decide +kernel) (by decide +kernel)
set_option maxRecDepth 20000 in
theorem gX13_thin_X13_isTape : GoodIn wsX13_thin (va_wsS RX13 44 yX13_isTape wsX13_isTape) := goodIn_app (goodIn_of _ (by decide +kernel)) ggX13_thin_X13_isTape
theorem dX13_thin_2 : decode cX13_thin 2 = .ok (.invokestatic 44, 3) := by decide +kernel
theorem dX13_thin_5 : decode cX13_thin 5 = .ok (.iconst 1, 1) := by decide +kernel
theorem dX13_thin_6 : decode cX13_thin 6 = .ok (.iconst 1, 1) := by decide +kernel
set_option maxRecDepth 20000 in
theorem ggX13_thin_X13_passes : GoodIn wsX13_thin wsX13_passes := goodIn_r _ [12, 13, 138, 139, 140, 141, 142, 143, 144, 145, 146, 147, 148, 149, 150, 151] (by decide +kernel) (by decide +kernel)
set_option maxRecDepth 20000 in
theorem gX13_thin_X13_passes : GoodIn wsX13_thin (wsV RX13 55 RX13 yX13_passes wsX13_passes) := goodIn_app (goodIn_of _ (by decide +kernel)) ggX13_thin_X13_passes
theorem dX13_thin_7 : decode cX13_thin 7 = .ok (.invokevirtual 55, 3) := by decide +kernel
theorem dX13_thin_10 : decode cX13_thin 10 = .ok (.ifCond .ne 5, 3) := by decide +kernel
theorem dX13_thin_15 : decode cX13_thin 15 = .ok (.aload_n 0, 1) := by decide +kernel
theorem dX13_thin_16 : decode cX13_thin 16 = .ok (.getfield 29, 3) := by decide +kernel
theorem dX13_thin_19 : decode cX13_thin 19 = .ok (.iload_n 1, 1) := by decide +kernel
theorem dX13_thin_20 : decode cX13_thin 20 = .ok (.aaload, 1) := by decide +kernel
theorem dX13_thin_21 : decode cX13_thin 21 = .ok (.arraylength, 1) := by decide +kernel
theorem dX13_thin_22 : decode cX13_thin 22 = .ok (.istore_n 3, 1) := by decide +kernel
theorem dX13_thin_23 : decode cX13_thin 23 = .ok (.aload_n 0, 1) := by decide +kernel
theorem dX13_thin_24 : decode cX13_thin 24 = .ok (.getfield 29, 3) := by decide +kernel
theorem dX13_thin_27 : decode cX13_thin 27 = .ok (.iload_n 1, 1) := by decide +kernel
theorem dX13_thin_28 : decode cX13_thin 28 = .ok (.aload_n 0, 1) := by decide +kernel
theorem dX13_thin_29 : decode cX13_thin 29 = .ok (.aload_n 0, 1) := by decide +kernel
theorem dX13_thin_30 : decode cX13_thin 30 = .ok (.getfield 29, 3) := by decide +kernel
theorem dX13_thin_33 : decode cX13_thin 33 = .ok (.iload_n 1, 1) := by decide +kernel
theorem dX13_thin_34 : decode cX13_thin 34 = .ok (.aaload, 1) := by decide +kernel
theorem dX13_thin_35 : decode cX13_thin 35 = .ok (.iload_n 2, 1) := by decide +kernel
set_option maxRecDepth 20000 in
theorem ggX13_thin_X13_thinned : GoodIn wsX13_thin wsX13_thinned := goodIn_r _ [17, 18, 19, 20, 21, 22, 23, 24, 25, 26, 27, 28, 29, 30, 31, 32, 33, 34, 35, 36, 37, 38, 6, 7, 4, 8, 39, 40, 41, 42, 43, 44, 45, 46, 47, 48, 49, 50, 51, 52, 53, 54, 55, 56, 57, 58, 59, 60, 61, 62, 63, 64, 65, 66, 67, 68, 69, 70, 71, 72, 73, 74, 75, 76, 77, 78, 79, 80, 81, 82, 83, 84, 85, 86, 87, 88, 89, 90, 91, 92, 93, 94, 95, 96, 97, 98, 99, 100, 101, 102, 103, 104, 105, 106, 107, 108, 109, 110, 111, 112, 113, 114, 115, 116, 117, 118, 119, 120, 121, 122, 123, 124, 125, 126, 127, 128, 129, 130, 131, 132, 133, 134, 135, 136, 137, 152, 153, 154, 138, 139, 140, 141, 142, 143, 144, 145, 146, 147, 148, 149, 150, 151, 155] (by decide +kernel) (by decide +kernel)
set_option maxRecDepth 20000 in
theorem gX13_thin_X13_thinned : GoodIn wsX13_thin (wsV RX13 209 RX13 yX13_thinned wsX13_thinned) := goodIn_app (goodIn_of _ (by decide +kernel)) ggX13_thin_X13_thinned
theorem dX13_thin_36 : decode cX13_thin 36 = .ok (.invokevirtual 209, 3) := by decide +kernel
theorem dX13_thin_39 : decode cX13_thin 39 = .ok (.aastore, 1) := by decide +kernel
theorem dX13_thin_40 : decode cX13_thin 40 = .ok (.iload_n 3, 1) := by decide +kernel
theorem dX13_thin_41 : decode cX13_thin 41 = .ok (.aload_n 0, 1) := by decide +kernel
theorem dX13_thin_42 : decode cX13_thin 42 = .ok (.getfield 29, 3) := by decide +kernel
theorem dX13_thin_45 : decode cX13_thin 45 = .ok (.iload_n 1, 1) := by decide +kernel
theorem dX13_thin_46 : decode cX13_thin 46 = .ok (.aaload, 1) := by decide +kernel
theorem dX13_thin_47 : decode cX13_thin 47 = .ok (.arraylength, 1) := by decide +kernel
theorem dX13_thin_48 : decode cX13_thin 48 = .ok (.isub, 1) := by decide +kernel
theorem dX13_thin_49 : decode cX13_thin 49 = .ok (.ireturn, 1) := by decide +kernel
theorem dX13_thin_13 : decode cX13_thin 13 = .ok (.iconst 0, 1) := by decide +kernel
theorem dX13_thin_14 : decode cX13_thin 14 = .ok (.ireturn, 1) := by decide +kernel
theorem dX13_keys_0 : decode cX13_keys 0 = .ok (.aload_n 0, 1) := by decide +kernel
theorem dX13_keys_1 : decode cX13_keys 1 = .ok (.iload_n 1, 1) := by decide +kernel
set_option maxRecDepth 20000 in
theorem ggX13_keys_X13_isTape : GoodIn wsX13_keys wsX13_isTape := goodIn_r _ [5, 6, 7, 4, 8] (by decide +kernel) (by decide +kernel)
set_option maxRecDepth 20000 in
theorem gX13_keys_X13_isTape : GoodIn wsX13_keys (va_wsS RX13 44 yX13_isTape wsX13_isTape) := goodIn_app (goodIn_of _ (by decide +kernel)) ggX13_keys_X13_isTape
theorem dX13_keys_2 : decode cX13_keys 2 = .ok (.invokestatic 44, 3) := by decide +kernel
theorem dX13_keys_5 : decode cX13_keys 5 = .ok (.aload_n 0, 1) := by decide +kernel
theorem dX13_keys_6 : decode cX13_keys 6 = .ok (.iload_n 1, 1) := by decide +kernel
set_option maxRecDepth 20000 in
theorem ggX13_keys_X13_isUp : GoodIn wsX13_keys wsX13_isUp := goodIn_r _ [12, 1, 2, 3, 4, 5, 6, 7, 8, 13, 14, 15, 16, 17, 18, 19, 20, 21, 150, 151, 152, 153, 154, 155, 156, 157, 158, 159, 160, 161, 162, 163] (by decide +kernel) (by decide +kernel)
set_option maxRecDepth 20000 in
theorem gX13_keys_X13_isUp : GoodIn wsX13_keys (wsV RX13 213 RX13 yX13_isUp wsX13_isUp) := goodIn_app (goodIn_of _ (by decide +kernel)) ggX13_keys_X13_isUp
theorem dX13_keys_7 : decode cX13_keys 7 = .ok (.invokevirtual 213, 3) := by decide +kernel
theorem dX13_keys_10 : decode cX13_keys 10 = .ok (.iconst 1, 1) := by decide +kernel
set_option maxRecDepth 20000 in
theorem ggX13_keys_X13_passes : GoodIn wsX13_keys wsX13_passes := goodIn_r _ [25, 26, 150, 151, 152, 153, 154, 155, 156, 157, 158, 159, 160, 161, 162, 163] (by decide +kernel) (by decide +kernel)
set_option maxRecDepth 20000 in
theorem gX13_keys_X13_passes : GoodIn wsX13_keys (wsV RX13 55 RX13 yX13_passes wsX13_passes) := goodIn_app (goodIn_of _ (by decide +kernel)) ggX13_keys_X13_passes
theorem dX13_keys_11 : decode cX13_keys 11 = .ok (.invokevirtual 55, 3) := by decide +kernel
theorem dX13_keys_14 : decode cX13_keys 14 = .ok (.ifCond .eq 18, 3) := by decide +kernel
theorem dX13_keys_32 : decode cX13_keys 32 = .ok (.iconst 0, 1) := by decide +kernel
theorem dX13_keys_33 : decode cX13_keys 33 = .ok (.ireturn, 1) := by decide +kernel
theorem dX13_keys_17 : decode cX13_keys 17 = .ok (.aload_n 0, 1) := by decide +kernel
theorem dX13_keys_18 : decode cX13_keys 18 = .ok (.aload_n 0, 1) := by decide +kernel
theorem dX13_keys_19 : decode cX13_keys 19 = .ok (.getfield 29, 3) := by decide +kernel
theorem dX13_keys_22 : decode cX13_keys 22 = .ok (.iload_n 1, 1) := by decide +kernel
theorem dX13_keys_23 : decode cX13_keys 23 = .ok (.aaload, 1) := by decide +kernel
theorem dX13_keys_24 : decode cX13_keys 24 = .ok (.iconst 0, 1) := by decide +kernel
set_option maxRecDepth 20000 in
theorem ggX13_keys_X13_thinned : GoodIn wsX13_keys wsX13_thinned := goodIn_r _ [30, 31, 32, 33, 21, 34, 35, 36, 37, 38, 39, 40, 41, 42, 43, 44, 45, 46, 47, 48, 49, 50, 6, 7, 4, 8, 51, 52, 53, 54, 55, 56, 57, 58, 59, 60, 61, 62, 63, 64, 65, 66, 67, 68, 69, 70, 71, 72, 73, 74, 75, 76, 77, 78, 79, 80, 81, 82, 83, 84, 85, 86, 87, 88, 89, 90, 91, 92, 93, 94, 95, 96, 97, 98, 99, 100, 101, 102, 103, 104, 105, 106, 107, 108, 109, 110, 111, 112, 113, 114, 115, 116, 117, 118, 119, 120, 121, 122, 123, 124, 125, 126, 127, 128, 129, 130, 131, 132, 133, 134, 135, 136, 137, 138, 139, 140, 141, 142, 143, 144, 145, 146, 147, 148, 149, 164, 165, 166, 150, 151, 152, 153, 154, 155, 156, 157, 158, 159, 160, 161, 162, 163, 167] (by decide +kernel) (by decide +kernel)
set_option maxRecDepth 20000 in
theorem gX13_keys_X13_thinned : GoodIn wsX13_keys (wsV RX13 209 RX13 yX13_thinned wsX13_thinned) := goodIn_app (goodIn_of _ (by decide +kernel)) ggX13_keys_X13_thinned
theorem dX13_keys_25 : decode cX13_keys 25 = .ok (.invokevirtual 209, 3) := by decide +kernel
theorem dX13_keys_28 : decode cX13_keys 28 = .ok (.arraylength, 1) := by decide +kernel
theorem dX13_keys_29 : decode cX13_keys 29 = .ok (.goto 4, 3) := by decide +kernel
set_option maxHeartbeats 4000000 in
set_option maxRecDepth 100000 in
theorem c_X13_rowOf (l : Launch) (dC : Nat → ClassId) (dI : Nat → Nat → Nat) (g : Nat → ClassId) (t : Nat) (md : Int32) (sz : Nat) : Met l yX13_rowOf wsX13_rowOf ({ frames := 1, cells := 1, slots := 0, locals := 20 }) (va_Pc [.ref t] (PG (dC, dI) g [(t, .inr (1, [.int md, .ref (g 10), .int 0]))] sz)) (va_Qq (fun (r : Option Nat) (u : Nat → Nat) => r = some (u 0)) (fun (u : Nat → Nat) t9 => va_P (dC, dI) vwCl [(t, .inr (1, [.int md, .ref (g 10), .int 0])), ((u 0), .inl (g 0, 0, .inl (fun _ => 0)))] t9.heap ∧ va_D (va_A [(t, .inr (1, [.int md, .ref (g 10), .int 0]))] sz) [(t, .inr (1, [.int md, .ref (g 10), .int 0])), ((u 0), .inl (g 0, 0, .inl (fun _ => 0)))]) (va_A [(t, .inr (1, [.int md, .ref (g 10), .int 0]))] sz)) 1 0 (va_A [(t, .inr (1, [.int md, .ref (g 10), .int 0]))] sz) := by
  refine Met.ofW (cc := cX13_rowOf) (maxL := 3) (ret := (some (.array .int))) (by decide) rfl ?_
  intro p e s m args below meth c s₁ B hml hv
  obtain ⟨rfl, hsz, hP, hK, hD0, hG⟩ := hv
  have hx := B.exec
  have hb := B.bytes
  have hr := B.returns
  have hts := atoms_spec (ws := wsX13_rowOf) B.pre
  have hown : s.vm.findClass RX13 = some m.cls := findClass_of_methodNamed B.named
  have hlocks := B.notSynchronized
  subst hsz
  have hD := hD0.self (sz := s.heap.size)
  generalize hAe : va_A [(t, .inr (1, [.int md, .ref (g 10), .int 0]))] s.heap.size = A at hD hG ⊢
  have hA : ∀ q : Nat, s.heap.size ≤ q → A q := fun q h => by rw [← hAe]; exact Or.inr h
  have hS : va_S A s.heap s.heap [] := va_S.rf
  have hl := lv_entry ([.ref t]) (n := 3) (Nat.le_of_ble_eq_true rfl)
  rw [lg_entry_eq]
  generalize (lg_sl ([.ref t]) ++ List.replicate (3 - (lg_sl ([.ref t])).length) Slot.unset).toArray = ls at hl ⊢
  have hl : lv_has ls 3 [(0, .ref t)] := hl
  have hnaint := hts (Cond.arrayClass (newarray.typeOf .int)) (by decide +kernel)
  refine lv_aload_n hx hb dX13_rowOf_0 rfl (lv_at hl 0 rfl) ?_
  refine va_callFi (va_runF (As := []) (rest := []) (hK.1 1 _ rfl).2 ⟨hx, hb, hml, hown, hts⟩ (c_Jx4a65c_size_8abf5 l dC dI g [(t, .inr (1, [.int md, .ref (g 10), .int 0]))] t md 0 (some (g 10)) 0 rfl  s.heap.size) (va_cwF 0 hts gX13_rowOf_Jx4a65c_size_8abf5_f79Jx4a65c rfl rfl rfl (fw_1 hG) (by decide +kernel) ⟨Nat.le_of_ble_eq_true rfl, Nat.le_of_ble_eq_true rfl⟩) ⟨PG_blind, va_recv hK hP (ci := 1) (q0 := 0) rfl rfl, PG_call hK hG hS hP hD (A_all hD hA hS.1)⟩ rfl rfl hl.1 rfl (lv_room (Nat.le_of_ble_eq_true rfl)) dX13_rowOf_1 ⟨Nat.le_of_ble_eq_true rfl, Nat.le_of_ble_eq_true rfl⟩) hS (fun q _ h => (A_all hD hA hS.1) q h) (A_all hD hA hS.1) (fun r_1 u_1 t_1 H_1 L_1 ht_1 hvm_1 hw_1 hB_1 hz_1 hk_1 hS => ?_)
  replace hB_1 := (show va_P (dC, dI) vwCl [(t, .inr (1, [.int md, .ref (g 10), .int 0]))] t_1.heap from hB_1)
  rw [ht_1] at hB_1
  have hP := hB_1
  obtain rfl : r_1 = 0 := hw_1
  refine va_newa (atype := .int) (a0 := (0, .inl (fun _ => 0))) hx hb hnaint rfl hK hP hD hS hA (fun _ => rfl) (by decide) (N' := 0) (by decide) (Nat.le_of_ble_eq_true rfl) (Nat.le_of_ble_eq_true rfl) (Nat.le_of_ble_eq_true rfl) dX13_rowOf_6 (fun q_2 cA_4 H_3 hK9 hP hD hS => ?_)
  obtain rfl : g 0 = cA_4 := K_one hK9 0 6 rfl rfl
  have hP : va_P (dC, dI) vwCl [(t, .inr (1, [.int md, .ref (g 10), .int 0])), (q_2, .inl (g 0, 0, .inl (fun _ => 0)))] H_3 := hP
  have hD : va_D A [(t, .inr (1, [.int md, .ref (g 10), .int 0])), (q_2, .inl (g 0, 0, .inl (fun _ => 0)))] := hD
  refine W.widen (k := 1) (n := 0) (by omega) (by omega) ?_
  refine lv_astore_n (lv' := [(1, .ref q_2), (0, .ref t)]) hx hb dX13_rowOf_8 rfl hl (by decide) rfl (fun ls hl => ?_)
  refine lv_iconst (v := 0) hx hb dX13_rowOf_9 (by decide) ?_
  refine lv_istore_n (lv' := [(2, .int 0), (1, .ref q_2), (0, .ref t)]) hx hb dX13_rowOf_10 rfl hl (by decide) rfl (fun ls hl => ?_)
  refine lv_iload_n hx hb dX13_rowOf_11 rfl (lv_at hl 0 rfl) ?_
  refine lv_aload_n hx hb dX13_rowOf_12 rfl (lv_at hl 1 rfl) ?_
  refine va_alen hx hb hK hP 1 0 rfl rfl (v := 0) rfl dX13_rowOf_13 ?_
  refine lv_icmp_ge (tgt := 39) hx hb dX13_rowOf_14 (by decide) (fun c_5 => ?_) (fun c_5 => absurd (by decide) c_5)
  refine lv_aload_n hx hb dX13_rowOf_39 rfl (lv_at hl 1 rfl) ?_
  have hP9 := hP.sub (ws' := [(t, .inr (1, [.int md, .ref (g 10), .int 0])), (q_2, .inl (g 0, 0, .inl (fun _ => 0)))]) [0, 1] rfl
  have hD9 := hD.sub (ws' := [(t, .inr (1, [.int md, .ref (g 10), .int 0])), (q_2, .inl (g 0, 0, .inl (fun _ => 0)))]) [0, 1] (by decide) rfl
  exact W.aret (v := .ref q_2) hx hb hr (Or.inr ⟨_, rfl⟩) (Or.inr ⟨_, rfl⟩) (fun t ht hW => ⟨⟨some q_2, (fun j => ([q_2] : List Nat).getD j 0), rfl, rfl, ⟨P_at ht hP9, hD9⟩⟩, hS.F ht⟩) hS.2.2 dX13_rowOf_40
set_option maxHeartbeats 4000000 in
set_option maxRecDepth 100000 in
theorem c_X13_thinned (l : Launch) (dC : Nat → ClassId) (dI : Nat → Nat → Nat) (g : Nat → ClassId) (o : Nat) (rw_ : Nat) (fr : Nat → Int32) (il : Int32) (sz : Nat) : Met l yX13_thinned wsX13_thinned ({ frames := 4, cells := 2, slots := 3, locals := 72 }) (va_Pc [.ref o, .ref rw_, .int il] (PG (dC, dI) g [(rw_, .inl (g 0, 0, .inl fr))] sz)) (va_Qq (fun (r : Option Nat) (u : Nat → Nat) => r = some (u 0)) (fun (u : Nat → Nat) t9 => va_P (dC, dI) vwCl [(rw_, .inl (g 0, 0, .inl fr)), ((u 0), .inl (g 0, 0, .inl (fun _ => 0)))] t9.heap ∧ va_D (va_A [(rw_, .inl (g 0, 0, .inl fr))] sz) [(rw_, .inl (g 0, 0, .inl fr)), ((u 0), .inl (g 0, 0, .inl (fun _ => 0)))]) (va_A [(rw_, .inl (g 0, 0, .inl fr))] sz)) 2 3 (va_A [(rw_, .inl (g 0, 0, .inl fr))] sz) := by
  refine Met.ofW (cc := cX13_thinned) (maxL := 7) (ret := (some (.array .int))) (by decide) rfl ?_
  intro p e s m args below meth c s₁ B hml hv
  obtain ⟨rfl, hsz, hP, hK, hD0, hG⟩ := hv
  have hx := B.exec
  have hb := B.bytes
  have hr := B.returns
  have hts := atoms_spec (ws := wsX13_thinned) B.pre
  have hown : s.vm.findClass RX13 = some m.cls := findClass_of_methodNamed B.named
  have hlocks := B.notSynchronized
  subst hsz
  have hD := hD0.self (sz := s.heap.size)
  generalize hAe : va_A [(rw_, .inl (g 0, 0, .inl fr))] s.heap.size = A at hD hG ⊢
  have hA : ∀ q : Nat, s.heap.size ≤ q → A q := fun q h => by rw [← hAe]; exact Or.inr h
  have hS : va_S A s.heap s.heap [] := va_S.rf
  have hl := lv_entry ([.ref o, .ref rw_, .int il]) (n := 7) (Nat.le_of_ble_eq_true rfl)
  rw [lg_entry_eq]
  generalize (lg_sl ([.ref o, .ref rw_, .int il]) ++ List.replicate (7 - (lg_sl ([.ref o, .ref rw_, .int il])).length) Slot.unset).toArray = ls at hl ⊢
  have hl : lv_has ls 7 [(0, .ref o), (1, .ref rw_), (2, .int il)] := hl
  have hcl98 := hts (Cond.classLink RX13 98 RJx4a65c) (by decide +kernel)
  have hinJx4a65c := hts (Cond.instantiable RJx4a65c 3) (by decide +kernel)
  have hiniJx4a65c := hts (Cond.initialized RJx4a65c) (by decide +kernel)
  have hiJx4a65c : ∀ w ∈ u_ws RJx4a65c TJx4a65c 3, w ∈ wsX13_thinned := by decide +kernel
  have himJx4a65c_init_da8c8 := hts (Cond.instanceMethod yJx4a65c_init_da8c8) (by decide +kernel)
  have hml100 := hts (Cond.methodLink RX13 100 yJx4a65c_init_da8c8) (by decide +kernel)
  refine va_new (ci := 1) (fs := [.int 0, .null, .int 0]) (C := RJx4a65c) (T := TJx4a65c) (N := 3) hx hb hts hiJx4a65c tyJx4a65c tyJx4a65c_ok hown hcl98 hinJx4a65c hiniJx4a65c hK hP hD hS hA rfl (fun j hj => by rcases (show j = 0 ∨ j = 1 ∨ j = 2 by omega) with rfl | rfl | rfl <;> rfl) (Nat.le_of_ble_eq_true rfl) (Nat.le_of_ble_eq_true rfl) dX13_thinned_0 (fun q_1 H_2 hP hD hS => ?_)
  have hP : va_P (dC, dI) vwCl [(rw_, .inl (g 0, 0, .inl fr)), (q_1, .inr (1, [.int 0, .null, .int 0]))] H_2 := hP
  have hD : va_D A [(rw_, .inl (g 0, 0, .inl fr)), (q_1, .inr (1, [.int 0, .null, .int 0]))] := hD
  refine W.widen (k := 1) (n := 3) (by omega) (by omega) ?_
  refine lv_dup hx hb dX13_thinned_3 rfl ?_
  have hPc := hP.sub (ws' := [(q_1, .inr (1, [.int 0, .null, .int 0]))]) [1] rfl
  have hDc := hD.sub (ws' := [(q_1, .inr (1, [.int 0, .null, .int 0]))]) [1] (by decide) rfl
  have hFc := va_free (wc := [(q_1, .inr (1, [.int 0, .null, .int 0]))]) hD hS hA [1] rfl
  refine va_callv (va_runI (As := []) (rest := [.ref q_1]) ⟨hx, hb, hml, hown, hts⟩ (c_Jx4a65c_init_da8c8 l dC dI g q_1  H_2.size) (cwI 0 hts gX13_thinned_Jx4a65c_init_da8c8 rfl rfl rfl hiniJx4a65c hml100 himJx4a65c_init_da8c8 rfl (by decide +kernel) ⟨Nat.le_of_ble_eq_true rfl, Nat.le_of_ble_eq_true rfl⟩) ⟨PG_blind, PG_call hK hG hS hPc hDc hFc⟩ rfl rfl hl.1 rfl (lv_room (Nat.le_of_ble_eq_true rfl)) dX13_thinned_4 ⟨Nat.le_of_ble_eq_true rfl, Nat.le_of_ble_eq_true rfl⟩) hS (fun q _ h => hFc q h) hFc (fun u_3 t_3 H_3 L_3 ht_3 hvm_3 hw_3 hB_3 hz_3 hk_3 hS => ?_)
  obtain ⟨hP1, hD1⟩ := hB_3
  rw [ht_3] at hP1
  obtain ⟨hP, hD⟩ := va_join (wr := [(rw_, .inl (g 0, 0, .inl fr))]) (w1 := [(q_1, .inr (1, [.int 0, .ref (g 10), .int 0]))]) hP hD [1] [0] rfl rfl (by decide) (by decide) hk_3 hFc hP1 hD1
  have hP : va_P (dC, dI) vwCl [(rw_, .inl (g 0, 0, .inl fr)), (q_1, .inr (1, [.int 0, .ref (g 10), .int 0]))] H_3 := hP
  have hD : va_D A [(rw_, .inl (g 0, 0, .inl fr)), (q_1, .inr (1, [.int 0, .ref (g 10), .int 0]))] := hD
  refine lv_astore_n (lv' := [(3, .ref q_1), (0, .ref o), (1, .ref rw_), (2, .int il)]) hx hb dX13_thinned_7 rfl hl (by decide) rfl (fun ls hl => ?_)
  refine lv_iconst (v := 0) hx hb dX13_thinned_8 (by decide) ?_
  refine lv_istore (lv' := [(4, .int 0), (3, .ref q_1), (0, .ref o), (1, .ref rw_), (2, .int il)]) hx hb dX13_thinned_9 hl (by decide) rfl (fun ls hl => ?_)
  refine lv_iload hx hb dX13_thinned_11 (lv_at hl 0 rfl) ?_
  refine lv_aload_n hx hb dX13_thinned_13 rfl (lv_at hl 3 rfl) ?_
  refine va_alen hx hb hK hP 0 0 rfl rfl (v := 0) rfl dX13_thinned_14 ?_
  refine lv_icmp_ge (tgt := 90) hx hb dX13_thinned_15 (by decide) (fun c_4 => ?_) (fun c_4 => absurd (by decide) c_4)
  refine lv_aload_n hx hb dX13_thinned_90 rfl (lv_at hl 1 rfl) ?_
  have hPc := hP.sub (ws' := [(q_1, .inr (1, [.int 0, .ref (g 10), .int 0]))]) [1] rfl
  have hDc := hD.sub (ws' := [(q_1, .inr (1, [.int 0, .ref (g 10), .int 0]))]) [1] (by decide) rfl
  have hFc := va_free (wc := [(q_1, .inr (1, [.int 0, .ref (g 10), .int 0]))]) hD hS hA [1] rfl
  refine va_callq (va_runS (As := [.ref q_1]) (rest := []) ⟨hx, hb, hml, hown, hts⟩ (c_X13_rowOf l dC dI g q_1 0  H_3.size) (va_cwS 1 hts gX13_thinned_X13_rowOf rfl rfl rfl (by decide +kernel) ⟨Nat.le_of_ble_eq_true rfl, Nat.le_of_ble_eq_true rfl⟩) ⟨PG_blind, PG_call hK hG hS hPc hDc hFc⟩ rfl rfl hl.1 rfl (lv_room (Nat.le_of_ble_eq_true rfl)) dX13_thinned_91 ⟨Nat.le_of_ble_eq_true rfl, Nat.le_of_ble_eq_true rfl⟩) hS (fun q _ h => hFc q h) hFc (fun r_5 u_5 t_5 H_5 L_5 ht_5 hvm_5 hw_5 hB_5 hz_5 hk_5 hS => ?_)
  obtain ⟨hP1, hD1⟩ := hB_5
  rw [ht_5] at hP1
  obtain ⟨hP, hD⟩ := va_join (wr := [(rw_, .inl (g 0, 0, .inl fr))]) (w1 := [(q_1, .inr (1, [.int 0, .ref (g 10), .int 0])), ((u_5 0), .inl (g 0, 0, .inl (fun _ => 0)))]) hP hD [1] [0] rfl rfl (by decide) (by decide) hk_5 hFc hP1 hD1
  have hP : va_P (dC, dI) vwCl [(rw_, .inl (g 0, 0, .inl fr)), (q_1, .inr (1, [.int 0, .ref (g 10), .int 0])), ((u_5 0), .inl (g 0, 0, .inl (fun _ => 0)))] H_5 := hP
  have hD : va_D A [(rw_, .inl (g 0, 0, .inl fr)), (q_1, .inr (1, [.int 0, .ref (g 10), .int 0])), ((u_5 0), .inl (g 0, 0, .inl (fun _ => 0)))] := hD
  refine W.widen (k := 2) (n := 3) (by omega) (by omega) ?_
  obtain rfl : r_5 = some (u_5 0) := hw_5
  refine W.eq (g2 := F0 m 94 ls [.ref (u_5 0)]) rfl ?_
  have hP9 := hP.sub (ws' := [(rw_, .inl (g 0, 0, .inl fr)), ((u_5 0), .inl (g 0, 0, .inl (fun _ => 0)))]) [0, 2] rfl
  have hD9 := hD.sub (ws' := [(rw_, .inl (g 0, 0, .inl fr)), ((u_5 0), .inl (g 0, 0, .inl (fun _ => 0)))]) [0, 2] (by decide) rfl
  exact W.aret (v := .ref (u_5 0)) hx hb hr (Or.inr ⟨_, rfl⟩) (Or.inr ⟨_, rfl⟩) (fun t ht hW => ⟨⟨some (u_5 0), (fun j => ([(u_5 0)] : List Nat).getD j 0), rfl, rfl, ⟨P_at ht hP9, hD9⟩⟩, hS.F ht⟩) hS.2.2 dX13_thinned_94
set_option maxHeartbeats 4000000 in
set_option maxRecDepth 100000 in
theorem c_X13_thin (l : Launch) (dC : Nat → ClassId) (dI : Nat → Nat → Nat) (g : Nat → ClassId) (b : Nat → Nat) (r1 : Nat → Nat) (r2 : Nat → Nat) (x : Int32) (z : Int32) (th : Int32) (sz : Nat) : Met l yX13_thin wsX13_thin ({ frames := 5, cells := 4, slots := 10, locals := 98 }) (va_Pc [.ref (b 0), .int x, .int z] (PG (dC, dI) g (modW b r1 r2 g th) sz)) (va_Qi (fun (r : Int32) (_ : Unit) => (cd (TOKb x) true true) = 0 → r = 0) (fun (_ : Unit) t => ∃ fs : List Value, va_P (dC, dI) vwCl [(b 0, .inr (15, .int (cd (TOKb x) true true) :: fs))] t.heap) (va_A (modW b r1 r2 g th) sz)) 4 10 (va_A (modW b r1 r2 g th) sz) := by
  refine Met.ofW (cc := cX13_thin) (maxL := 4) (ret := (some .int)) (by decide) rfl ?_
  intro p e s m args below meth c s₁ B hml hv
  obtain ⟨rfl, hsz, hP, hK, hD0, hG⟩ := hv
  have hx := B.exec
  have hb := B.bytes
  have hr := B.returns
  have hts := atoms_spec (ws := wsX13_thin) B.pre
  have hown : s.vm.findClass RX13 = some m.cls := findClass_of_methodNamed B.named
  have hlocks := B.notSynchronized
  subst hsz
  have hD := hD0.self (sz := s.heap.size)
  generalize hAe : va_A (modW b r1 r2 g th) s.heap.size = A at hD hG ⊢
  have hA : ∀ q : Nat, s.heap.size ≤ q → A q := fun q h => by rw [← hAe]; exact Or.inr h
  have hS : va_S A s.heap s.heap [] := va_S.rf
  have hl := lv_entry ([.ref (b 0), .int x, .int z]) (n := 4) (Nat.le_of_ble_eq_true rfl)
  rw [lg_entry_eq]
  generalize (lg_sl ([.ref (b 0), .int x, .int z]) ++ List.replicate (4 - (lg_sl ([.ref (b 0), .int x, .int z])).length) Slot.unset).toArray = ls at hl ⊢
  have hl : lv_has ls 4 [(0, .ref (b 0)), (1, .int x), (2, .int z)] := hl
  have hf29 := hts (Cond.fieldLink RX13 29 "RunmergeOfficeModel" "tapes" "[[I") (by decide +kernel)
  have hiX13 : ∀ w ∈ u_ws RX13 TX13 14, w ∈ wsX13_thin := by decide +kernel
  refine lv_aload_n hx hb dX13_thin_0 rfl (lv_at hl 0 rfl) ?_
  refine lv_iload_n hx hb dX13_thin_1 rfl (lv_at hl 1 rfl) ?_
  refine va_calli (va_runS (As := [.int x]) (rest := [.ref (b 0)]) ⟨hx, hb, hml, hown, hts⟩ (c_X13_isTape l dC dI g (modW b r1 r2 g th) x   s.heap.size) (va_cwS 1 hts gX13_thin_X13_isTape rfl rfl rfl (by decide +kernel) ⟨Nat.le_of_ble_eq_true rfl, Nat.le_of_ble_eq_true rfl⟩) ⟨PG_blind, PG_call hK hG hS hP hD (A_all hD hA hS.1)⟩ rfl rfl hl.1 rfl (lv_room (Nat.le_of_ble_eq_true rfl)) dX13_thin_2 ⟨Nat.le_of_ble_eq_true rfl, Nat.le_of_ble_eq_true rfl⟩) hS (fun q _ h => (A_all hD hA hS.1) q h) (A_all hD hA hS.1) (fun r_1 u_1 t_1 H_1 L_1 ht_1 hvm_1 hw_1 hB_1 hz_1 hk_1 hS => ?_)
  replace hB_1 := (show va_P (dC, dI) vwCl (modW b r1 r2 g th) t_1.heap from hB_1)
  rw [ht_1] at hB_1
  have hP := hB_1
  obtain rfl : r_1 = b2i (TOKb x) := hw_1
  refine lv_iconst (v := 1) hx hb dX13_thin_5 (by decide) ?_
  refine lv_iconst (v := 1) hx hb dX13_thin_6 (by decide) ?_
  refine va_calli (va_runV (As := [.int (b2i (TOKb x)), .int 1, .int 1]) (rest := []) ⟨hx, hb, hml, hown, hts⟩ (c_X13_passes l dC dI g b r1 r2 th (TOKb x) true true  H_1.size) (cwV 3 hts gX13_thin_X13_passes rfl rfl rfl (by decide +kernel) ⟨Nat.le_of_ble_eq_true rfl, Nat.le_of_ble_eq_true rfl⟩) ⟨PG_blind, va_recv hK hP (ci := 15) (q0 := 0) rfl (m_0 b r1 r2 g th), PG_call hK hG hS hP hD (A_all hD hA hS.1)⟩ rfl rfl hl.1 rfl (lv_room (Nat.le_of_ble_eq_true rfl)) dX13_thin_7 ⟨Nat.le_of_ble_eq_true rfl, Nat.le_of_ble_eq_true rfl⟩) hS (fun q _ h => (A_all hD hA hS.1) q h) (A_all hD hA hS.1) (fun r_2 u_2 t_2 H_2 L_2 ht_2 hvm_2 hw_2 hB_2 hz_2 hk_2 hS => ?_)
  rw [ht_2] at hB_2
  have hP : va_P (dC, dI) vwCl (modW b r1 r2 g (cd (TOKb x) true true)) H_2 := hB_2
  have hD : va_D A (modW b r1 r2 g (cd (TOKb x) true true)) := va_D_th hD
  obtain rfl : r_2 = b2i (TOKb x) := hw_2.trans (by simp)
  refine lv_if_ne (tgt := 15) hx hb dX13_thin_10 (by decide) (fun c_3 => ?_) (fun c_3 => ?_)
  · have hB_4 : (TOKb x) = true := b2i_1 c_3
    obtain ⟨jx, hjx, rfl⟩ := TOK_ex hB_4
    obtain ⟨hP, hD⟩ := mod_x b r1 r2 g (cd (TOKb (nI jx)) true true) jx hjx hP hD
    have hP : va_P (dC, dI) vwCl [((b 0), .inr (15, [.int (cd (TOKb (nI jx)) true true), .ref (b 1), .ref (b 2), .int 0, .ref (b 3), .ref (b 4), .ref (b 5), .null, .ref (b 6), .int 0, .int 0, .int 0, .int 0, .int 0])), ((b 3), .inl (g 4, 8, .inr (.inr (.inr (.inr (fun i => if i < 8 then some (r1 i) else none)))))), ((r1 jx), .inl (g 0, 0, .inl (fun _ => 0))), ((b 1), .inl (g 0, 200, .inl (fun _ => 0))), ((b 2), .inl (g 0, 200, .inl (fun _ => 0))), ((b 5), .inl (g 0, 5, .inl stf))] H_2 := hP
    have hD : va_D A [((b 0), .inr (15, [.int (cd (TOKb (nI jx)) true true), .ref (b 1), .ref (b 2), .int 0, .ref (b 3), .ref (b 4), .ref (b 5), .null, .ref (b 6), .int 0, .int 0, .int 0, .int 0, .int 0])), ((b 3), .inl (g 4, 8, .inr (.inr (.inr (.inr (fun i => if i < 8 then some (r1 i) else none)))))), ((r1 jx), .inl (g 0, 0, .inl (fun _ => 0))), ((b 1), .inl (g 0, 200, .inl (fun _ => 0))), ((b 2), .inl (g 0, 200, .inl (fun _ => 0))), ((b 5), .inl (g 0, 5, .inl stf))] := hD
    refine lv_aload_n hx hb dX13_thin_15 rfl (lv_at hl 0 rfl) ?_
    refine va_get (D := (dC, dI)) (ci := 15) (v := .ref (b 3)) (C := RX13) (T := TX13) (N := 14) hx hb hts hiX13 hown hK hP 0 rfl rfl 4 (by decide) hf29 (fun _ h9 => h9) rfl dX13_thin_16 ?_
    refine lv_iload_n hx hb dX13_thin_19 rfl (lv_at hl 1 rfl) ?_
    refine va_aldA hx hb hK hP 1 rfl (vp_in_nI hjx (by decide)) dX13_thin_20 ?_
    refine W.eq (g2 := F0 m 21 ls [.ref (r1 jx)]) (by rw [nI_clamp (show jx < 2 ^ 31 by omega)]; simp only [if_pos hjx]; rfl) ?_
    refine va_alen hx hb hK hP 2 0 rfl rfl (v := 0) rfl dX13_thin_21 ?_
    refine lv_istore_n (lv' := [(3, .int 0), (0, .ref (b 0)), (1, .int (nI jx)), (2, .int z)]) hx hb dX13_thin_22 rfl hl (by decide) rfl (fun ls hl => ?_)
    refine lv_aload_n hx hb dX13_thin_23 rfl (lv_at hl 1 rfl) ?_
    refine va_get (D := (dC, dI)) (ci := 15) (v := .ref (b 3)) (C := RX13) (T := TX13) (N := 14) hx hb hts hiX13 hown hK hP 0 rfl rfl 4 (by decide) hf29 (fun _ h9 => h9) rfl dX13_thin_24 ?_
    refine lv_iload_n hx hb dX13_thin_27 rfl (lv_at hl 2 rfl) ?_
    refine lv_aload_n hx hb dX13_thin_28 rfl (lv_at hl 1 rfl) ?_
    refine lv_aload_n hx hb dX13_thin_29 rfl (lv_at hl 1 rfl) ?_
    refine va_get (D := (dC, dI)) (ci := 15) (v := .ref (b 3)) (C := RX13) (T := TX13) (N := 14) hx hb hts hiX13 hown hK hP 0 rfl rfl 4 (by decide) hf29 (fun _ h9 => h9) rfl dX13_thin_30 ?_
    refine lv_iload_n hx hb dX13_thin_33 rfl (lv_at hl 2 rfl) ?_
    refine va_aldA hx hb hK hP 1 rfl (vp_in_nI hjx (by decide)) dX13_thin_34 ?_
    refine W.eq (g2 := F0 m 35 ls [.ref (r1 jx), .ref (b 0), .int (nI jx), .ref (b 3)]) (by rw [nI_clamp (show jx < 2 ^ 31 by omega)]; simp only [if_pos hjx]; rfl) ?_
    refine lv_iload_n hx hb dX13_thin_35 rfl (lv_at hl 3 rfl) ?_
    have hPc := hP.sub (ws' := [((r1 jx), .inl (g 0, 0, .inl (fun _ => 0)))]) [2] rfl
    have hDc := hD.sub (ws' := [((r1 jx), .inl (g 0, 0, .inl (fun _ => 0)))]) [2] (by decide) rfl
    have hFc := va_free (wc := [((r1 jx), .inl (g 0, 0, .inl (fun _ => 0)))]) hD hS hA [2] rfl
    refine va_callq (va_runV (As := [.ref (r1 jx), .int z]) (rest := [.int (nI jx), .ref (b 3)]) ⟨hx, hb, hml, hown, hts⟩ (c_X13_thinned l dC dI g (b 0) (r1 jx) (fun _ => 0) z  H_2.size) (cwV 2 hts gX13_thin_X13_thinned rfl rfl rfl (by decide +kernel) ⟨Nat.le_of_ble_eq_true rfl, Nat.le_of_ble_eq_true rfl⟩) ⟨PG_blind, va_recv hK hP (ci := 15) (q0 := 0) rfl rfl, PG_call hK hG hS hPc hDc hFc⟩ rfl rfl hl.1 rfl (lv_room (Nat.le_of_ble_eq_true rfl)) dX13_thin_36 ⟨Nat.le_of_ble_eq_true rfl, Nat.le_of_ble_eq_true rfl⟩) hS (fun q _ h => hFc q h) hFc (fun r_5 u_5 t_5 H_5 L_5 ht_5 hvm_5 hw_5 hB_5 hz_5 hk_5 hS => ?_)
    obtain ⟨hP1, hD1⟩ := hB_5
    rw [ht_5] at hP1
    obtain ⟨hP, hD⟩ := va_join (wr := [((b 0), .inr (15, [.int (cd (TOKb (nI jx)) true true), .ref (b 1), .ref (b 2), .int 0, .ref (b 3), .ref (b 4), .ref (b 5), .null, .ref (b 6), .int 0, .int 0, .int 0, .int 0, .int 0])), ((b 3), .inl (g 4, 8, .inr (.inr (.inr (.inr (fun i => if i < 8 then some (r1 i) else none)))))), ((b 1), .inl (g 0, 200, .inl (fun _ => 0))), ((b 2), .inl (g 0, 200, .inl (fun _ => 0))), ((b 5), .inl (g 0, 5, .inl stf))]) (w1 := [((r1 jx), .inl (g 0, 0, .inl (fun _ => 0))), ((u_5 0), .inl (g 0, 0, .inl (fun _ => 0)))]) hP hD [2] [0, 1, 3, 4, 5] rfl rfl (by decide) (by decide) hk_5 hFc hP1 hD1
    have hP : va_P (dC, dI) vwCl [((b 0), .inr (15, [.int (cd (TOKb (nI jx)) true true), .ref (b 1), .ref (b 2), .int 0, .ref (b 3), .ref (b 4), .ref (b 5), .null, .ref (b 6), .int 0, .int 0, .int 0, .int 0, .int 0])), ((b 3), .inl (g 4, 8, .inr (.inr (.inr (.inr (fun i => if i < 8 then some (r1 i) else none)))))), ((b 1), .inl (g 0, 200, .inl (fun _ => 0))), ((b 2), .inl (g 0, 200, .inl (fun _ => 0))), ((b 5), .inl (g 0, 5, .inl stf)), ((r1 jx), .inl (g 0, 0, .inl (fun _ => 0))), ((u_5 0), .inl (g 0, 0, .inl (fun _ => 0)))] H_5 := hP
    have hD : va_D A [((b 0), .inr (15, [.int (cd (TOKb (nI jx)) true true), .ref (b 1), .ref (b 2), .int 0, .ref (b 3), .ref (b 4), .ref (b 5), .null, .ref (b 6), .int 0, .int 0, .int 0, .int 0, .int 0])), ((b 3), .inl (g 4, 8, .inr (.inr (.inr (.inr (fun i => if i < 8 then some (r1 i) else none)))))), ((b 1), .inl (g 0, 200, .inl (fun _ => 0))), ((b 2), .inl (g 0, 200, .inl (fun _ => 0))), ((b 5), .inl (g 0, 5, .inl stf)), ((r1 jx), .inl (g 0, 0, .inl (fun _ => 0))), ((u_5 0), .inl (g 0, 0, .inl (fun _ => 0)))] := hD
    refine W.widen (k := 2) (n := 3) (by omega) (by omega) ?_
    obtain rfl : r_5 = some (u_5 0) := hw_5
    refine W.eq (g2 := F0 m 39 ls [.ref (u_5 0), .int (nI jx), .ref (b 3)]) rfl ?_
    refine va_astA hx hb hK (ao_3 hG) hP hD hS 1 6 rfl rfl (vp_in_nI hjx (by decide)) dX13_thin_39 (fun H_6 L_7 hP hD hS => ?_)
    have hP : va_P (dC, dI) vwCl [((b 0), .inr (15, [.int (cd (TOKb (nI jx)) true true), .ref (b 1), .ref (b 2), .int 0, .ref (b 3), .ref (b 4), .ref (b 5), .null, .ref (b 6), .int 0, .int 0, .int 0, .int 0, .int 0])), ((b 3), .inl (g 4, 8, .inr (.inr (.inr (.inr (va_up (fun i => if i < 8 then some (r1 i) else none) (nI jx).toNatClampNeg (some (u_5 0)))))))), ((b 1), .inl (g 0, 200, .inl (fun _ => 0))), ((b 2), .inl (g 0, 200, .inl (fun _ => 0))), ((b 5), .inl (g 0, 5, .inl stf)), ((r1 jx), .inl (g 0, 0, .inl (fun _ => 0))), ((u_5 0), .inl (g 0, 0, .inl (fun _ => 0)))] H_6 := hP
    have hD : va_D A [((b 0), .inr (15, [.int (cd (TOKb (nI jx)) true true), .ref (b 1), .ref (b 2), .int 0, .ref (b 3), .ref (b 4), .ref (b 5), .null, .ref (b 6), .int 0, .int 0, .int 0, .int 0, .int 0])), ((b 3), .inl (g 4, 8, .inr (.inr (.inr (.inr (va_up (fun i => if i < 8 then some (r1 i) else none) (nI jx).toNatClampNeg (some (u_5 0)))))))), ((b 1), .inl (g 0, 200, .inl (fun _ => 0))), ((b 2), .inl (g 0, 200, .inl (fun _ => 0))), ((b 5), .inl (g 0, 5, .inl stf)), ((r1 jx), .inl (g 0, 0, .inl (fun _ => 0))), ((u_5 0), .inl (g 0, 0, .inl (fun _ => 0)))] := hD
    refine lv_iload_n hx hb dX13_thin_40 rfl (lv_at hl 0 rfl) ?_
    refine lv_aload_n hx hb dX13_thin_41 rfl (lv_at hl 1 rfl) ?_
    refine va_get (D := (dC, dI)) (ci := 15) (v := .ref (b 3)) (C := RX13) (T := TX13) (N := 14) hx hb hts hiX13 hown hK hP 0 rfl rfl 4 (by decide) hf29 (fun _ h9 => h9) rfl dX13_thin_42 ?_
    refine lv_iload_n hx hb dX13_thin_45 rfl (lv_at hl 2 rfl) ?_
    refine va_aldA hx hb hK hP 1 rfl (vp_in_nI hjx (by decide)) dX13_thin_46 ?_
    refine W.eq (g2 := F0 m 47 ls [.ref (u_5 0), .int 0]) (by simp only [va_up, if_true]; rfl) ?_
    refine va_alen hx hb hK hP 6 0 rfl rfl (v := 0) rfl dX13_thin_47 ?_
    refine lv_isub hx hb dX13_thin_48 ?_
    refine lv_topi (fun x_8 ex_8 => ?_)
    obtain rfl : x_8 = 0 := ex_8.trans (by decide)
    refine W.widen (k := 4) (n := 10) (by omega) (by omega) ?_
    have hcd : (cd (TOKb (nI jx)) true true) = (cd (TOKb (nI jx)) true true) := rfl
    have hP8 := hP.sub (ws' := [((b 0), .inr (15, [.int (cd (TOKb (nI jx)) true true), .ref (b 1), .ref (b 2), .int 0, .ref (b 3), .ref (b 4), .ref (b 5), .null, .ref (b 6), .int 0, .int 0, .int 0, .int 0, .int 0]))]) [0] rfl
    rw [hcd] at hP8
    exact W.iret (v := 0) hx hb hr (fun t ht hW => ⟨⟨0, (), rfl, (fun h => by first | rfl | (exact absurd (cd_0.mp h) (by simp [(TOK_j hjx rfl)]))), ⟨[.ref (b 1), .ref (b 2), .int 0, .ref (b 3), .ref (b 4), .ref (b 5), .null, .ref (b 6), .int 0, .int 0, .int 0, .int 0, .int 0], P_at ht hP8⟩⟩, hS.F ht⟩) hS.2.2 dX13_thin_49
  · have hB_4 : (TOKb x) = false := b2i_0 c_3
    refine lv_iconst (v := 0) hx hb dX13_thin_13 (by decide) ?_
    refine W.widen (k := 4) (n := 10) (by omega) (by omega) ?_
    have hcd : (cd (TOKb x) true true) = (cd (TOKb x) true true) := rfl
    have hP8 := hP.sub (ws' := [((b 0), .inr (15, [.int (cd (TOKb x) true true), .ref (b 1), .ref (b 2), .int 0, .ref (b 3), .ref (b 4), .ref (b 5), .null, .ref (b 6), .int 0, .int 0, .int 0, .int 0, .int 0]))]) [0] rfl
    rw [hcd] at hP8
    exact W.iret (v := 0) hx hb hr (fun t ht hW => ⟨⟨0, (), rfl, (fun h => by first | rfl | (exact absurd (cd_0.mp h) (by simp [hB_4]))), ⟨[.ref (b 1), .ref (b 2), .int 0, .ref (b 3), .ref (b 4), .ref (b 5), .null, .ref (b 6), .int 0, .int 0, .int 0, .int 0, .int 0], P_at ht hP8⟩⟩, hS.F ht⟩) hS.2.2 dX13_thin_14
set_option maxHeartbeats 4000000 in
set_option maxRecDepth 100000 in
theorem c_X13_keys (l : Launch) (dC : Nat → ClassId) (dI : Nat → Nat → Nat) (g : Nat → ClassId) (b : Nat → Nat) (r1 : Nat → Nat) (r2 : Nat → Nat) (x : Int32) (th : Int32) (sz : Nat) : Met l yX13_keys wsX13_keys ({ frames := 5, cells := 4, slots := 10, locals := 98 }) (va_Pc [.ref (b 0), .int x] (PG (dC, dI) g (modW b r1 r2 g th) sz)) (va_Qi (fun (r : Int32) (_ : Unit) => (cd (TOKb x) true true) = 0 → r = 0) (fun (_ : Unit) t => ∃ fs : List Value, va_P (dC, dI) vwCl [(b 0, .inr (15, .int (cd (TOKb x) true true) :: fs))] t.heap) (va_A (modW b r1 r2 g th) sz)) 4 10 (va_A (modW b r1 r2 g th) sz) := by
  refine Met.ofW (cc := cX13_keys) (maxL := 2) (ret := (some .int)) (by decide) rfl ?_
  intro p e s m args below meth c s₁ B hml hv
  obtain ⟨rfl, hsz, hP, hK, hD0, hG⟩ := hv
  have hx := B.exec
  have hb := B.bytes
  have hr := B.returns
  have hts := atoms_spec (ws := wsX13_keys) B.pre
  have hown : s.vm.findClass RX13 = some m.cls := findClass_of_methodNamed B.named
  have hlocks := B.notSynchronized
  subst hsz
  have hD := hD0.self (sz := s.heap.size)
  generalize hAe : va_A (modW b r1 r2 g th) s.heap.size = A at hD hG ⊢
  have hA : ∀ q : Nat, s.heap.size ≤ q → A q := fun q h => by rw [← hAe]; exact Or.inr h
  have hS : va_S A s.heap s.heap [] := va_S.rf
  have hl := lv_entry ([.ref (b 0), .int x]) (n := 2) (Nat.le_of_ble_eq_true rfl)
  rw [lg_entry_eq]
  generalize (lg_sl ([.ref (b 0), .int x]) ++ List.replicate (2 - (lg_sl ([.ref (b 0), .int x])).length) Slot.unset).toArray = ls at hl ⊢
  have hl : lv_has ls 2 [(0, .ref (b 0)), (1, .int x)] := hl
  have hf29 := hts (Cond.fieldLink RX13 29 "RunmergeOfficeModel" "tapes" "[[I") (by decide +kernel)
  have hiX13 : ∀ w ∈ u_ws RX13 TX13 14, w ∈ wsX13_keys := by decide +kernel
  refine lv_aload_n hx hb dX13_keys_0 rfl (lv_at hl 0 rfl) ?_
  refine lv_iload_n hx hb dX13_keys_1 rfl (lv_at hl 1 rfl) ?_
  refine va_calli (va_runS (As := [.int x]) (rest := [.ref (b 0)]) ⟨hx, hb, hml, hown, hts⟩ (c_X13_isTape l dC dI g (modW b r1 r2 g th) x   s.heap.size) (va_cwS 1 hts gX13_keys_X13_isTape rfl rfl rfl (by decide +kernel) ⟨Nat.le_of_ble_eq_true rfl, Nat.le_of_ble_eq_true rfl⟩) ⟨PG_blind, PG_call hK hG hS hP hD (A_all hD hA hS.1)⟩ rfl rfl hl.1 rfl (lv_room (Nat.le_of_ble_eq_true rfl)) dX13_keys_2 ⟨Nat.le_of_ble_eq_true rfl, Nat.le_of_ble_eq_true rfl⟩) hS (fun q _ h => (A_all hD hA hS.1) q h) (A_all hD hA hS.1) (fun r_1 u_1 t_1 H_1 L_1 ht_1 hvm_1 hw_1 hB_1 hz_1 hk_1 hS => ?_)
  replace hB_1 := (show va_P (dC, dI) vwCl (modW b r1 r2 g th) t_1.heap from hB_1)
  rw [ht_1] at hB_1
  have hP := hB_1
  obtain rfl : r_1 = b2i (TOKb x) := hw_1
  refine lv_aload_n hx hb dX13_keys_5 rfl (lv_at hl 0 rfl) ?_
  refine lv_iload_n hx hb dX13_keys_6 rfl (lv_at hl 1 rfl) ?_
  refine va_calli (va_runV (As := [.int x]) (rest := [.int (b2i (TOKb x)), .ref (b 0)]) ⟨hx, hb, hml, hown, hts⟩ (c_X13_isUp l dC dI g b r1 r2 x th  H_1.size) (cwV 1 hts gX13_keys_X13_isUp rfl rfl rfl (by decide +kernel) ⟨Nat.le_of_ble_eq_true rfl, Nat.le_of_ble_eq_true rfl⟩) ⟨PG_blind, va_recv hK hP (ci := 15) (q0 := 0) rfl (m_0 b r1 r2 g th), PG_call hK hG hS hP hD (A_all hD hA hS.1)⟩ rfl rfl hl.1 rfl (lv_room (Nat.le_of_ble_eq_true rfl)) dX13_keys_7 ⟨Nat.le_of_ble_eq_true rfl, Nat.le_of_ble_eq_true rfl⟩) hS (fun q _ h => (A_all hD hA hS.1) q h) (A_all hD hA hS.1) (fun r_2 u_2 t_2 H_2 L_2 ht_2 hvm_2 hw_2 hB_2 hz_2 hk_2 hS => ?_)
  replace hB_2 := (show va_P (dC, dI) vwCl (modW b r1 r2 g th) t_2.heap from hB_2)
  rw [ht_2] at hB_2
  have hP := hB_2
  obtain rfl : r_2 = b2i (TOKb x) := hw_2
  refine lv_iconst (v := 1) hx hb dX13_keys_10 (by decide) ?_
  refine va_calli (va_runV (As := [.int (b2i (TOKb x)), .int (b2i (TOKb x)), .int 1]) (rest := []) ⟨hx, hb, hml, hown, hts⟩ (c_X13_passes l dC dI g b r1 r2 th (TOKb x) (TOKb x) true  H_2.size) (cwV 3 hts gX13_keys_X13_passes rfl rfl rfl (by decide +kernel) ⟨Nat.le_of_ble_eq_true rfl, Nat.le_of_ble_eq_true rfl⟩) ⟨PG_blind, va_recv hK hP (ci := 15) (q0 := 0) rfl (m_0 b r1 r2 g th), PG_call hK hG hS hP hD (A_all hD hA hS.1)⟩ rfl rfl hl.1 rfl (lv_room (Nat.le_of_ble_eq_true rfl)) dX13_keys_11 ⟨Nat.le_of_ble_eq_true rfl, Nat.le_of_ble_eq_true rfl⟩) hS (fun q _ h => (A_all hD hA hS.1) q h) (A_all hD hA hS.1) (fun r_3 u_3 t_3 H_3 L_3 ht_3 hvm_3 hw_3 hB_3 hz_3 hk_3 hS => ?_)
  rw [ht_3] at hB_3
  have hP : va_P (dC, dI) vwCl (modW b r1 r2 g (cd (TOKb x) (TOKb x) true)) H_3 := hB_3
  have hD : va_D A (modW b r1 r2 g (cd (TOKb x) (TOKb x) true)) := va_D_th hD
  obtain rfl : r_3 = b2i (TOKb x) := hw_3.trans (by simp)
  refine lv_if_eq (tgt := 32) hx hb dX13_keys_14 (by decide) (fun c_4 => ?_) (fun c_4 => ?_)
  · have hB_5 : (TOKb x) = false := b2i_0 c_4
    refine lv_iconst (v := 0) hx hb dX13_keys_32 (by decide) ?_
    refine W.widen (k := 4) (n := 10) (by omega) (by omega) ?_
    have hcd : (cd (TOKb x) (TOKb x) true) = (cd (TOKb x) true true) := by simp [cd, hB_5]
    have hP8 := hP.sub (ws' := [((b 0), .inr (15, [.int (cd (TOKb x) (TOKb x) true), .ref (b 1), .ref (b 2), .int 0, .ref (b 3), .ref (b 4), .ref (b 5), .null, .ref (b 6), .int 0, .int 0, .int 0, .int 0, .int 0]))]) [0] rfl
    rw [hcd] at hP8
    exact W.iret (v := 0) hx hb hr (fun t ht hW => ⟨⟨0, (), rfl, (fun h => by first | rfl | (exact absurd (cd_0.mp h) (by simp [hB_5]))), ⟨[.ref (b 1), .ref (b 2), .int 0, .ref (b 3), .ref (b 4), .ref (b 5), .null, .ref (b 6), .int 0, .int 0, .int 0, .int 0, .int 0], P_at ht hP8⟩⟩, hS.F ht⟩) hS.2.2 dX13_keys_33
  · have hB_5 : (TOKb x) = true := b2i_1 c_4
    obtain ⟨jx, hjx, rfl⟩ := TOK_ex hB_5
    obtain ⟨hP, hD⟩ := mod_x b r1 r2 g (cd (TOKb (nI jx)) (TOKb (nI jx)) true) jx hjx hP hD
    have hP : va_P (dC, dI) vwCl [((b 0), .inr (15, [.int (cd (TOKb (nI jx)) (TOKb (nI jx)) true), .ref (b 1), .ref (b 2), .int 0, .ref (b 3), .ref (b 4), .ref (b 5), .null, .ref (b 6), .int 0, .int 0, .int 0, .int 0, .int 0])), ((b 3), .inl (g 4, 8, .inr (.inr (.inr (.inr (fun i => if i < 8 then some (r1 i) else none)))))), ((r1 jx), .inl (g 0, 0, .inl (fun _ => 0))), ((b 1), .inl (g 0, 200, .inl (fun _ => 0))), ((b 2), .inl (g 0, 200, .inl (fun _ => 0))), ((b 5), .inl (g 0, 5, .inl stf))] H_3 := hP
    have hD : va_D A [((b 0), .inr (15, [.int (cd (TOKb (nI jx)) (TOKb (nI jx)) true), .ref (b 1), .ref (b 2), .int 0, .ref (b 3), .ref (b 4), .ref (b 5), .null, .ref (b 6), .int 0, .int 0, .int 0, .int 0, .int 0])), ((b 3), .inl (g 4, 8, .inr (.inr (.inr (.inr (fun i => if i < 8 then some (r1 i) else none)))))), ((r1 jx), .inl (g 0, 0, .inl (fun _ => 0))), ((b 1), .inl (g 0, 200, .inl (fun _ => 0))), ((b 2), .inl (g 0, 200, .inl (fun _ => 0))), ((b 5), .inl (g 0, 5, .inl stf))] := hD
    refine lv_aload_n hx hb dX13_keys_17 rfl (lv_at hl 0 rfl) ?_
    refine lv_aload_n hx hb dX13_keys_18 rfl (lv_at hl 0 rfl) ?_
    refine va_get (D := (dC, dI)) (ci := 15) (v := .ref (b 3)) (C := RX13) (T := TX13) (N := 14) hx hb hts hiX13 hown hK hP 0 rfl rfl 4 (by decide) hf29 (fun _ h9 => h9) rfl dX13_keys_19 ?_
    refine lv_iload_n hx hb dX13_keys_22 rfl (lv_at hl 1 rfl) ?_
    refine va_aldA hx hb hK hP 1 rfl (vp_in_nI hjx (by decide)) dX13_keys_23 ?_
    refine W.eq (g2 := F0 m 24 ls [.ref (r1 jx), .ref (b 0)]) (by rw [nI_clamp (show jx < 2 ^ 31 by omega)]; simp only [if_pos hjx]; rfl) ?_
    refine lv_iconst (v := 0) hx hb dX13_keys_24 (by decide) ?_
    have hPc := hP.sub (ws' := [((r1 jx), .inl (g 0, 0, .inl (fun _ => 0)))]) [2] rfl
    have hDc := hD.sub (ws' := [((r1 jx), .inl (g 0, 0, .inl (fun _ => 0)))]) [2] (by decide) rfl
    have hFc := va_free (wc := [((r1 jx), .inl (g 0, 0, .inl (fun _ => 0)))]) hD hS hA [2] rfl
    refine va_callq (va_runV (As := [.ref (r1 jx), .int 0]) (rest := []) ⟨hx, hb, hml, hown, hts⟩ (c_X13_thinned l dC dI g (b 0) (r1 jx) (fun _ => 0) 0  H_3.size) (cwV 2 hts gX13_keys_X13_thinned rfl rfl rfl (by decide +kernel) ⟨Nat.le_of_ble_eq_true rfl, Nat.le_of_ble_eq_true rfl⟩) ⟨PG_blind, va_recv hK hP (ci := 15) (q0 := 0) rfl rfl, PG_call hK hG hS hPc hDc hFc⟩ rfl rfl hl.1 rfl (lv_room (Nat.le_of_ble_eq_true rfl)) dX13_keys_25 ⟨Nat.le_of_ble_eq_true rfl, Nat.le_of_ble_eq_true rfl⟩) hS (fun q _ h => hFc q h) hFc (fun r_6 u_6 t_6 H_6 L_6 ht_6 hvm_6 hw_6 hB_6 hz_6 hk_6 hS => ?_)
    obtain ⟨hP1, hD1⟩ := hB_6
    rw [ht_6] at hP1
    obtain ⟨hP, hD⟩ := va_join (wr := [((b 0), .inr (15, [.int (cd (TOKb (nI jx)) (TOKb (nI jx)) true), .ref (b 1), .ref (b 2), .int 0, .ref (b 3), .ref (b 4), .ref (b 5), .null, .ref (b 6), .int 0, .int 0, .int 0, .int 0, .int 0])), ((b 3), .inl (g 4, 8, .inr (.inr (.inr (.inr (fun i => if i < 8 then some (r1 i) else none)))))), ((b 1), .inl (g 0, 200, .inl (fun _ => 0))), ((b 2), .inl (g 0, 200, .inl (fun _ => 0))), ((b 5), .inl (g 0, 5, .inl stf))]) (w1 := [((r1 jx), .inl (g 0, 0, .inl (fun _ => 0))), ((u_6 0), .inl (g 0, 0, .inl (fun _ => 0)))]) hP hD [2] [0, 1, 3, 4, 5] rfl rfl (by decide) (by decide) hk_6 hFc hP1 hD1
    have hP : va_P (dC, dI) vwCl [((b 0), .inr (15, [.int (cd (TOKb (nI jx)) (TOKb (nI jx)) true), .ref (b 1), .ref (b 2), .int 0, .ref (b 3), .ref (b 4), .ref (b 5), .null, .ref (b 6), .int 0, .int 0, .int 0, .int 0, .int 0])), ((b 3), .inl (g 4, 8, .inr (.inr (.inr (.inr (fun i => if i < 8 then some (r1 i) else none)))))), ((b 1), .inl (g 0, 200, .inl (fun _ => 0))), ((b 2), .inl (g 0, 200, .inl (fun _ => 0))), ((b 5), .inl (g 0, 5, .inl stf)), ((r1 jx), .inl (g 0, 0, .inl (fun _ => 0))), ((u_6 0), .inl (g 0, 0, .inl (fun _ => 0)))] H_6 := hP
    have hD : va_D A [((b 0), .inr (15, [.int (cd (TOKb (nI jx)) (TOKb (nI jx)) true), .ref (b 1), .ref (b 2), .int 0, .ref (b 3), .ref (b 4), .ref (b 5), .null, .ref (b 6), .int 0, .int 0, .int 0, .int 0, .int 0])), ((b 3), .inl (g 4, 8, .inr (.inr (.inr (.inr (fun i => if i < 8 then some (r1 i) else none)))))), ((b 1), .inl (g 0, 200, .inl (fun _ => 0))), ((b 2), .inl (g 0, 200, .inl (fun _ => 0))), ((b 5), .inl (g 0, 5, .inl stf)), ((r1 jx), .inl (g 0, 0, .inl (fun _ => 0))), ((u_6 0), .inl (g 0, 0, .inl (fun _ => 0)))] := hD
    refine W.widen (k := 2) (n := 3) (by omega) (by omega) ?_
    obtain rfl : r_6 = some (u_6 0) := hw_6
    refine W.eq (g2 := F0 m 28 ls [.ref (u_6 0)]) rfl ?_
    refine va_alen hx hb hK hP 6 0 rfl rfl (v := 0) rfl dX13_keys_28 ?_
    refine lv_goto (tgt := 33) hx hb dX13_keys_29 (by decide) ?_
    refine W.widen (k := 4) (n := 10) (by omega) (by omega) ?_
    have hcd : (cd (TOKb (nI jx)) (TOKb (nI jx)) true) = (cd (TOKb (nI jx)) true true) := by simp [cd, (TOK_j hjx rfl)]
    have hP8 := hP.sub (ws' := [((b 0), .inr (15, [.int (cd (TOKb (nI jx)) (TOKb (nI jx)) true), .ref (b 1), .ref (b 2), .int 0, .ref (b 3), .ref (b 4), .ref (b 5), .null, .ref (b 6), .int 0, .int 0, .int 0, .int 0, .int 0]))]) [0] rfl
    rw [hcd] at hP8
    exact W.iret (v := 0) hx hb hr (fun t ht hW => ⟨⟨0, (), rfl, (fun h => by first | rfl | (exact absurd (cd_0.mp h) (by simp [(TOK_j hjx rfl)]))), ⟨[.ref (b 1), .ref (b 2), .int 0, .ref (b 3), .ref (b 4), .ref (b 5), .null, .ref (b 6), .int 0, .int 0, .int 0, .int 0, .int 0], P_at ht hP8⟩⟩, hS.F ht⟩) hS.2.2 dX13_keys_33
