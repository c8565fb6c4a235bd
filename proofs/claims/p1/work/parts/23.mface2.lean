theorem dX13_clear_0 : decode cX13_clear 0 = .ok (.aload_n 0, 1) := by decide +kernel
theorem dX13_clear_1 : decode cX13_clear 1 = .ok (.iload_n 1, 1) := by decide +kernel
set_option maxRecDepth 20000 in
theorem ggX13_clear_X13_isTape : GoodIn wsX13_clear wsX13_isTape := goodIn_r _ [6, 7, 8, 5, 9] (by decide +kernel) (by decide +kernel)
set_option maxRecDepth 20000 in
theorem gX13_clear_X13_isTape : GoodIn wsX13_clear (va_wsS RX13 44 yX13_isTape wsX13_isTape) := goodIn_app (goodIn_of _ (by decide +kernel)) ggX13_clear_X13_isTape
theorem dX13_clear_2 : decode cX13_clear 2 = .ok (.invokestatic 44, 3) := by decide +kernel
theorem dX13_clear_5 : decode cX13_clear 5 = .ok (.iconst 1, 1) := by decide +kernel
theorem dX13_clear_6 : decode cX13_clear 6 = .ok (.iconst 1, 1) := by decide +kernel
set_option maxRecDepth 20000 in
theorem ggX13_clear_X13_passes : GoodIn wsX13_clear wsX13_passes := goodIn_r _ [13, 14, 15, 16, 17, 18, 19, 20, 21, 22, 23, 24, 25, 26, 27, 28] (by decide +kernel) (by decide +kernel)
set_option maxRecDepth 20000 in
theorem gX13_clear_X13_passes : GoodIn wsX13_clear (wsV RX13 55 RX13 yX13_passes wsX13_passes) := goodIn_app (goodIn_of _ (by decide +kernel)) ggX13_clear_X13_passes
theorem dX13_clear_7 : decode cX13_clear 7 = .ok (.invokevirtual 55, 3) := by decide +kernel
theorem dX13_clear_10 : decode cX13_clear 10 = .ok (.ifCond .ne 5, 3) := by decide +kernel
theorem dX13_clear_15 : decode cX13_clear 15 = .ok (.aload_n 0, 1) := by decide +kernel
theorem dX13_clear_16 : decode cX13_clear 16 = .ok (.getfield 29, 3) := by decide +kernel
theorem dX13_clear_19 : decode cX13_clear 19 = .ok (.iload_n 1, 1) := by decide +kernel
theorem dX13_clear_20 : decode cX13_clear 20 = .ok (.aaload, 1) := by decide +kernel
theorem dX13_clear_21 : decode cX13_clear 21 = .ok (.arraylength, 1) := by decide +kernel
theorem dX13_clear_22 : decode cX13_clear 22 = .ok (.istore_n 2, 1) := by decide +kernel
theorem dX13_clear_23 : decode cX13_clear 23 = .ok (.aload_n 0, 1) := by decide +kernel
theorem dX13_clear_24 : decode cX13_clear 24 = .ok (.getfield 29, 3) := by decide +kernel
theorem dX13_clear_27 : decode cX13_clear 27 = .ok (.iload_n 1, 1) := by decide +kernel
theorem dX13_clear_28 : decode cX13_clear 28 = .ok (.iconst 0, 1) := by decide +kernel
theorem dX13_clear_29 : decode cX13_clear 29 = .ok (.newarray .int, 2) := by decide +kernel
theorem dX13_clear_31 : decode cX13_clear 31 = .ok (.aastore, 1) := by decide +kernel
theorem dX13_clear_32 : decode cX13_clear 32 = .ok (.iload_n 2, 1) := by decide +kernel
theorem dX13_clear_33 : decode cX13_clear 33 = .ok (.ireturn, 1) := by decide +kernel
theorem dX13_clear_13 : decode cX13_clear 13 = .ok (.iconst 0, 1) := by decide +kernel
theorem dX13_clear_14 : decode cX13_clear 14 = .ok (.ireturn, 1) := by decide +kernel
theorem dX13_copy_0 : decode cX13_copy 0 = .ok (.aload_n 0, 1) := by decide +kernel
theorem dX13_copy_1 : decode cX13_copy 1 = .ok (.iload_n 1, 1) := by decide +kernel
set_option maxRecDepth 20000 in
theorem ggX13_copy_X13_isTape : GoodIn wsX13_copy wsX13_isTape := goodIn_r _ [5, 6, 7, 4, 8] (by decide +kernel) (by decide +kernel)
set_option maxRecDepth 20000 in
theorem gX13_copy_X13_isTape : GoodIn wsX13_copy (va_wsS RX13 44 yX13_isTape wsX13_isTape) := goodIn_app (goodIn_of _ (by decide +kernel)) ggX13_copy_X13_isTape
theorem dX13_copy_2 : decode cX13_copy 2 = .ok (.invokestatic 44, 3) := by decide +kernel
theorem dX13_copy_5 : decode cX13_copy 5 = .ok (.ifCond .eq 14, 3) := by decide +kernel
theorem dX13_copy_19 : decode cX13_copy 19 = .ok (.iconst 0, 1) := by decide +kernel
theorem dX13_copy_20 : decode cX13_copy 20 = .ok (.iconst 1, 1) := by decide +kernel
theorem dX13_copy_21 : decode cX13_copy 21 = .ok (.iconst 1, 1) := by decide +kernel
set_option maxRecDepth 20000 in
theorem ggX13_copy_X13_passes : GoodIn wsX13_copy wsX13_passes := goodIn_r _ [12, 13, 14, 15, 16, 17, 18, 19, 20, 21, 22, 23, 24, 25, 26, 27] (by decide +kernel) (by decide +kernel)
set_option maxRecDepth 20000 in
theorem gX13_copy_X13_passes : GoodIn wsX13_copy (wsV RX13 55 RX13 yX13_passes wsX13_passes) := goodIn_app (goodIn_of _ (by decide +kernel)) ggX13_copy_X13_passes
theorem dX13_copy_22 : decode cX13_copy 22 = .ok (.invokevirtual 55, 3) := by decide +kernel
theorem dX13_copy_25 : decode cX13_copy 25 = .ok (.ifCond .ne 5, 3) := by decide +kernel
theorem dX13_copy_28 : decode cX13_copy 28 = .ok (.iconst 0, 1) := by decide +kernel
theorem dX13_copy_29 : decode cX13_copy 29 = .ok (.ireturn, 1) := by decide +kernel
theorem dX13_copy_8 : decode cX13_copy 8 = .ok (.iload_n 2, 1) := by decide +kernel
theorem dX13_copy_9 : decode cX13_copy 9 = .ok (.invokestatic 44, 3) := by decide +kernel
theorem dX13_copy_12 : decode cX13_copy 12 = .ok (.ifCond .eq 7, 3) := by decide +kernel
theorem dX13_copy_15 : decode cX13_copy 15 = .ok (.iconst 1, 1) := by decide +kernel
theorem dX13_copy_16 : decode cX13_copy 16 = .ok (.goto 4, 3) := by decide +kernel
theorem dX13_copy_30 : decode cX13_copy 30 = .ok (.aload_n 0, 1) := by decide +kernel
theorem dX13_copy_31 : decode cX13_copy 31 = .ok (.getfield 29, 3) := by decide +kernel
theorem dX13_copy_34 : decode cX13_copy 34 = .ok (.iload_n 2, 1) := by decide +kernel
theorem dX13_copy_35 : decode cX13_copy 35 = .ok (.aload_n 0, 1) := by decide +kernel
theorem dX13_copy_36 : decode cX13_copy 36 = .ok (.getfield 29, 3) := by decide +kernel
theorem dX13_copy_39 : decode cX13_copy 39 = .ok (.iload_n 1, 1) := by decide +kernel
theorem dX13_copy_40 : decode cX13_copy 40 = .ok (.aaload, 1) := by decide +kernel
theorem dX13_copy_41 : decode cX13_copy 41 = .ok (.aastore, 1) := by decide +kernel
theorem dX13_copy_42 : decode cX13_copy 42 = .ok (.aload_n 0, 1) := by decide +kernel
theorem dX13_copy_43 : decode cX13_copy 43 = .ok (.getfield 29, 3) := by decide +kernel
theorem dX13_copy_46 : decode cX13_copy 46 = .ok (.iload_n 2, 1) := by decide +kernel
theorem dX13_copy_47 : decode cX13_copy 47 = .ok (.aaload, 1) := by decide +kernel
theorem dX13_copy_48 : decode cX13_copy 48 = .ok (.arraylength, 1) := by decide +kernel
theorem dX13_copy_49 : decode cX13_copy 49 = .ok (.ireturn, 1) := by decide +kernel
theorem dX13_turned_0 : decode cX13_turned 0 = .ok (.aload_n 0, 1) := by decide +kernel
theorem dX13_turned_1 : decode cX13_turned 1 = .ok (.arraylength, 1) := by decide +kernel
theorem dX13_turned_2 : decode cX13_turned 2 = .ok (.newarray .int, 2) := by decide +kernel
theorem dX13_turned_4 : decode cX13_turned 4 = .ok (.astore_n 1, 1) := by decide +kernel
theorem dX13_turned_5 : decode cX13_turned 5 = .ok (.iconst 0, 1) := by decide +kernel
theorem dX13_turned_6 : decode cX13_turned 6 = .ok (.istore_n 2, 1) := by decide +kernel
theorem dX13_turned_7 : decode cX13_turned 7 = .ok (.iload_n 2, 1) := by decide +kernel
theorem dX13_turned_8 : decode cX13_turned 8 = .ok (.aload_n 0, 1) := by decide +kernel
theorem dX13_turned_9 : decode cX13_turned 9 = .ok (.arraylength, 1) := by decide +kernel
theorem dX13_turned_10 : decode cX13_turned 10 = .ok (.if_icmp .ge 20, 3) := by decide +kernel
theorem dX13_turned_30 : decode cX13_turned 30 = .ok (.aload_n 1, 1) := by decide +kernel
theorem dX13_turned_31 : decode cX13_turned 31 = .ok (.areturn, 1) := by decide +kernel
theorem dX13_turn_0 : decode cX13_turn 0 = .ok (.aload_n 0, 1) := by decide +kernel
theorem dX13_turn_1 : decode cX13_turn 1 = .ok (.iload_n 1, 1) := by decide +kernel
set_option maxRecDepth 20000 in
theorem ggX13_turn_X13_isTape : GoodIn wsX13_turn wsX13_isTape := goodIn_r _ [5, 6, 7, 4, 8] (by decide +kernel) (by decide +kernel)
set_option maxRecDepth 20000 in
theorem gX13_turn_X13_isTape : GoodIn wsX13_turn (va_wsS RX13 44 yX13_isTape wsX13_isTape) := goodIn_app (goodIn_of _ (by decide +kernel)) ggX13_turn_X13_isTape
theorem dX13_turn_2 : decode cX13_turn 2 = .ok (.invokestatic 44, 3) := by decide +kernel
theorem dX13_turn_5 : decode cX13_turn 5 = .ok (.iconst 1, 1) := by decide +kernel
theorem dX13_turn_6 : decode cX13_turn 6 = .ok (.iconst 1, 1) := by decide +kernel
set_option maxRecDepth 20000 in
theorem ggX13_turn_X13_passes : GoodIn wsX13_turn wsX13_passes := goodIn_r _ [12, 13, 18, 19, 20, 21, 22, 23, 24, 25, 26, 27, 28, 29, 30, 31] (by decide +kernel) (by decide +kernel)
set_option maxRecDepth 20000 in
theorem gX13_turn_X13_passes : GoodIn wsX13_turn (wsV RX13 55 RX13 yX13_passes wsX13_passes) := goodIn_app (goodIn_of _ (by decide +kernel)) ggX13_turn_X13_passes
theorem dX13_turn_7 : decode cX13_turn 7 = .ok (.invokevirtual 55, 3) := by decide +kernel
theorem dX13_turn_10 : decode cX13_turn 10 = .ok (.ifCond .ne 5, 3) := by decide +kernel
theorem dX13_turn_15 : decode cX13_turn 15 = .ok (.aload_n 0, 1) := by decide +kernel
theorem dX13_turn_16 : decode cX13_turn 16 = .ok (.getfield 29, 3) := by decide +kernel
theorem dX13_turn_19 : decode cX13_turn 19 = .ok (.iload_n 1, 1) := by decide +kernel
theorem dX13_turn_20 : decode cX13_turn 20 = .ok (.aload_n 0, 1) := by decide +kernel
theorem dX13_turn_21 : decode cX13_turn 21 = .ok (.getfield 29, 3) := by decide +kernel
theorem dX13_turn_24 : decode cX13_turn 24 = .ok (.iload_n 1, 1) := by decide +kernel
theorem dX13_turn_25 : decode cX13_turn 25 = .ok (.aaload, 1) := by decide +kernel
set_option maxRecDepth 20000 in
theorem ggX13_turn_X13_turned : GoodIn wsX13_turn wsX13_turned := goodIn_r _ [16, 17] (by decide +kernel) (by decide +kernel)
set_option maxRecDepth 20000 in
theorem gX13_turn_X13_turned : GoodIn wsX13_turn (va_wsS RX13 75 yX13_turned wsX13_turned) := goodIn_app (goodIn_of _ (by decide +kernel)) ggX13_turn_X13_turned
theorem dX13_turn_26 : decode cX13_turn 26 = .ok (.invokestatic 75, 3) := by decide +kernel
theorem dX13_turn_29 : decode cX13_turn 29 = .ok (.aastore, 1) := by decide +kernel
theorem dX13_turn_30 : decode cX13_turn 30 = .ok (.aload_n 0, 1) := by decide +kernel
theorem dX13_turn_31 : decode cX13_turn 31 = .ok (.getfield 29, 3) := by decide +kernel
theorem dX13_turn_34 : decode cX13_turn 34 = .ok (.iload_n 1, 1) := by decide +kernel
theorem dX13_turn_35 : decode cX13_turn 35 = .ok (.aaload, 1) := by decide +kernel
theorem dX13_turn_36 : decode cX13_turn 36 = .ok (.arraylength, 1) := by decide +kernel
theorem dX13_turn_37 : decode cX13_turn 37 = .ok (.ireturn, 1) := by decide +kernel
theorem dX13_turn_13 : decode cX13_turn 13 = .ok (.iconst 0, 1) := by decide +kernel
theorem dX13_turn_14 : decode cX13_turn 14 = .ok (.ireturn, 1) := by decide +kernel
theorem mod_x {D : va_G} {A : Nat → Prop} {H : Heap} (b r1 r2 : Nat → Nat) (g : Nat → ClassId) (th : Int32) (j : Nat) (hj : j < 8) (hP : va_P D vwCl (modW b r1 r2 g th) H) (hD : va_D A (modW b r1 r2 g th)) : va_P D vwCl [((b 0), .inr (15, [.int th, .ref (b 1), .ref (b 2), .int 0, .ref (b 3), .ref (b 4), .ref (b 5), .null, .ref (b 6), .int 0, .int 0, .int 0, .int 0, .int 0])), ((b 3), .inl (g 4, 8, .inr (.inr (.inr (.inr (fun i => if i < 8 then some (r1 i) else none)))))), ((r1 j), .inl (g 0, 0, .inl (fun _ => 0))), ((b 1), .inl (g 0, 200, .inl (fun _ => 0))), ((b 2), .inl (g 0, 200, .inl (fun _ => 0))), ((b 5), .inl (g 0, 5, .inl stf))] H ∧ va_D A [((b 0), .inr (15, [.int th, .ref (b 1), .ref (b 2), .int 0, .ref (b 3), .ref (b 4), .ref (b 5), .null, .ref (b 6), .int 0, .int 0, .int 0, .int 0, .int 0])), ((b 3), .inl (g 4, 8, .inr (.inr (.inr (.inr (fun i => if i < 8 then some (r1 i) else none)))))), ((r1 j), .inl (g 0, 0, .inl (fun _ => 0))), ((b 1), .inl (g 0, 200, .inl (fun _ => 0))), ((b 2), .inl (g 0, 200, .inl (fun _ => 0))), ((b 5), .inl (g 0, 5, .inl stf))] := by
  match j, hj with
  | 0, _ => exact ⟨hP.sub [0, 3, 7, 1, 2, 5] rfl, hD.sub [0, 3, 7, 1, 2, 5] (by decide) rfl⟩
  | 1, _ => exact ⟨hP.sub [0, 3, 8, 1, 2, 5] rfl, hD.sub [0, 3, 8, 1, 2, 5] (by decide) rfl⟩
  | 2, _ => exact ⟨hP.sub [0, 3, 9, 1, 2, 5] rfl, hD.sub [0, 3, 9, 1, 2, 5] (by decide) rfl⟩
  | 3, _ => exact ⟨hP.sub [0, 3, 10, 1, 2, 5] rfl, hD.sub [0, 3, 10, 1, 2, 5] (by decide) rfl⟩
  | 4, _ => exact ⟨hP.sub [0, 3, 11, 1, 2, 5] rfl, hD.sub [0, 3, 11, 1, 2, 5] (by decide) rfl⟩
  | 5, _ => exact ⟨hP.sub [0, 3, 12, 1, 2, 5] rfl, hD.sub [0, 3, 12, 1, 2, 5] (by decide) rfl⟩
  | 6, _ => exact ⟨hP.sub [0, 3, 13, 1, 2, 5] rfl, hD.sub [0, 3, 13, 1, 2, 5] (by decide) rfl⟩
  | 7, _ => exact ⟨hP.sub [0, 3, 14, 1, 2, 5] rfl, hD.sub [0, 3, 14, 1, 2, 5] (by decide) rfl⟩
set_option maxHeartbeats 4000000 in
set_option maxRecDepth 100000 in
theorem c_X13_clear (l : Launch) (dC : Nat → ClassId) (dI : Nat → Nat → Nat) (g : Nat → ClassId) (b : Nat → Nat) (r1 : Nat → Nat) (r2 : Nat → Nat) (x : Int32) (th : Int32) (sz : Nat) : Met l yX13_clear wsX13_clear ({ frames := 2, cells := 1, slots := 0, locals := 42 }) (va_Pc [.ref (b 0), .int x] (PG (dC, dI) g (modW b r1 r2 g th) sz)) (va_Qi (fun (r : Int32) (_ : Unit) => (cd (TOKb x) true true) = 0 → r = 0) (fun (_ : Unit) t => ∃ fs : List Value, va_P (dC, dI) vwCl [(b 0, .inr (15, .int (cd (TOKb x) true true) :: fs))] t.heap) (va_A (modW b r1 r2 g th) sz)) 1 0 (va_A (modW b r1 r2 g th) sz) := by
  refine Met.ofW (cc := cX13_clear) (maxL := 3) (ret := (some .int)) (by decide) rfl ?_
  intro p e s m args below meth c s₁ B hml hv
  obtain ⟨rfl, hsz, hP, hK, hD0, hG⟩ := hv
  have hx := B.exec
  have hb := B.bytes
  have hr := B.returns
  have hts := atoms_spec (ws := wsX13_clear) B.pre
  have hown : s.vm.findClass RX13 = some m.cls := findClass_of_methodNamed B.named
  have hlocks := B.notSynchronized
  subst hsz
  have hD := hD0.self (sz := s.heap.size)
  generalize hAe : va_A (modW b r1 r2 g th) s.heap.size = A at hD hG ⊢
  have hA : ∀ q : Nat, s.heap.size ≤ q → A q := fun q h => by rw [← hAe]; exact Or.inr h
  have hS : va_S A s.heap s.heap [] := va_S.rf
  have hl := lv_entry ([.ref (b 0), .int x]) (n := 3) (Nat.le_of_ble_eq_true rfl)
  rw [lg_entry_eq]
  generalize (lg_sl ([.ref (b 0), .int x]) ++ List.replicate (3 - (lg_sl ([.ref (b 0), .int x])).length) Slot.unset).toArray = ls at hl ⊢
  have hl : lv_has ls 3 [(0, .ref (b 0)), (1, .int x)] := hl
  have hf29 := hts (Cond.fieldLink RX13 29 "RunmergeOfficeModel" "tapes" "[[I") (by decide +kernel)
  have hiX13 : ∀ w ∈ u_ws RX13 TX13 14, w ∈ wsX13_clear := by decide +kernel
  have hnaint := hts (Cond.arrayClass (newarray.typeOf .int)) (by decide +kernel)
  refine lv_aload_n hx hb dX13_clear_0 rfl (lv_at hl 0 rfl) ?_
  refine lv_iload_n hx hb dX13_clear_1 rfl (lv_at hl 1 rfl) ?_
  refine va_calli (va_runS (As := [.int x]) (rest := [.ref (b 0)]) ⟨hx, hb, hml, hown, hts⟩ (c_X13_isTape l dC dI g (modW b r1 r2 g th) x   s.heap.size) (va_cwS 1 hts gX13_clear_X13_isTape rfl rfl rfl (by decide +kernel) ⟨Nat.le_of_ble_eq_true rfl, Nat.le_of_ble_eq_true rfl⟩) ⟨PG_blind, PG_call hK hG hS hP hD (A_all hD hA hS.1)⟩ rfl rfl hl.1 rfl (lv_room (Nat.le_of_ble_eq_true rfl)) dX13_clear_2 ⟨Nat.le_of_ble_eq_true rfl, Nat.le_of_ble_eq_true rfl⟩) hS (fun q _ h => (A_all hD hA hS.1) q h) (A_all hD hA hS.1) (fun r_1 u_1 t_1 H_1 L_1 ht_1 hvm_1 hw_1 hB_1 hz_1 hk_1 hS => ?_)
  replace hB_1 := (show va_P (dC, dI) vwCl (modW b r1 r2 g th) t_1.heap from hB_1)
  rw [ht_1] at hB_1
  have hP := hB_1
  obtain rfl : r_1 = b2i (TOKb x) := hw_1
  refine lv_iconst (v := 1) hx hb dX13_clear_5 (by decide) ?_
  refine lv_iconst (v := 1) hx hb dX13_clear_6 (by decide) ?_
  refine va_calli (va_runV (As := [.int (b2i (TOKb x)), .int 1, .int 1]) (rest := []) ⟨hx, hb, hml, hown, hts⟩ (c_X13_passes l dC dI g b r1 r2 th (TOKb x) true true  H_1.size) (cwV 3 hts gX13_clear_X13_passes rfl rfl rfl (by decide +kernel) ⟨Nat.le_of_ble_eq_true rfl, Nat.le_of_ble_eq_true rfl⟩) ⟨PG_blind, va_recv hK hP (ci := 15) (q0 := 0) rfl (m_0 b r1 r2 g th), PG_call hK hG hS hP hD (A_all hD hA hS.1)⟩ rfl rfl hl.1 rfl (lv_room (Nat.le_of_ble_eq_true rfl)) dX13_clear_7 ⟨Nat.le_of_ble_eq_true rfl, Nat.le_of_ble_eq_true rfl⟩) hS (fun q _ h => (A_all hD hA hS.1) q h) (A_all hD hA hS.1) (fun r_2 u_2 t_2 H_2 L_2 ht_2 hvm_2 hw_2 hB_2 hz_2 hk_2 hS => ?_)
  rw [ht_2] at hB_2
  have hP : va_P (dC, dI) vwCl (modW b r1 r2 g (cd (TOKb x) true true)) H_2 := hB_2
  have hD : va_D A (modW b r1 r2 g (cd (TOKb x) true true)) := va_D_th hD
  obtain rfl : r_2 = b2i (TOKb x) := hw_2.trans (by simp)
  refine lv_if_ne (tgt := 15) hx hb dX13_clear_10 (by decide) (fun c_3 => ?_) (fun c_3 => ?_)
  · have hB_4 : (TOKb x) = true := b2i_1 c_3
    obtain ⟨jx, hjx, rfl⟩ := TOK_ex hB_4
    refine lv_aload_n hx hb dX13_clear_15 rfl (lv_at hl 0 rfl) ?_
    refine va_get (D := (dC, dI)) (ci := 15) (v := .ref (b 3)) (C := RX13) (T := TX13) (N := 14) hx hb hts hiX13 hown hK hP 0 (m_0 b r1 r2 g (cd (TOKb (nI jx)) true true)) rfl 4 (by decide) hf29 (fun _ h9 => h9) rfl dX13_clear_16 ?_
    refine lv_iload_n hx hb dX13_clear_19 rfl (lv_at hl 1 rfl) ?_
    refine va_aldA hx hb hK hP 3 (m_3 b r1 r2 g (cd (TOKb (nI jx)) true true)) (vp_in_nI hjx (by decide)) dX13_clear_20 ?_
    refine W.eq (g2 := F0 m 21 ls [.ref (r1 jx)]) (by rw [nI_clamp (show jx < 2 ^ 31 by omega)]; simp only [if_pos hjx]; rfl) ?_
    refine va_alen hx hb hK hP (7 + jx) 0 (m_row1 b r1 r2 g (cd (TOKb (nI jx)) true true) jx hjx) rfl (v := 0) rfl dX13_clear_21 ?_
    refine lv_istore_n (lv' := [(2, .int 0), (0, .ref (b 0)), (1, .int (nI jx))]) hx hb dX13_clear_22 rfl hl (by decide) rfl (fun ls hl => ?_)
    obtain ⟨hP, hD⟩ := mod_x b r1 r2 g (cd (TOKb (nI jx)) true true) jx hjx hP hD
    have hP : va_P (dC, dI) vwCl [((b 0), .inr (15, [.int (cd (TOKb (nI jx)) true true), .ref (b 1), .ref (b 2), .int 0, .ref (b 3), .ref (b 4), .ref (b 5), .null, .ref (b 6), .int 0, .int 0, .int 0, .int 0, .int 0])), ((b 3), .inl (g 4, 8, .inr (.inr (.inr (.inr (fun i => if i < 8 then some (r1 i) else none)))))), ((r1 jx), .inl (g 0, 0, .inl (fun _ => 0))), ((b 1), .inl (g 0, 200, .inl (fun _ => 0))), ((b 2), .inl (g 0, 200, .inl (fun _ => 0))), ((b 5), .inl (g 0, 5, .inl stf))] H_2 := hP
    have hD : va_D A [((b 0), .inr (15, [.int (cd (TOKb (nI jx)) true true), .ref (b 1), .ref (b 2), .int 0, .ref (b 3), .ref (b 4), .ref (b 5), .null, .ref (b 6), .int 0, .int 0, .int 0, .int 0, .int 0])), ((b 3), .inl (g 4, 8, .inr (.inr (.inr (.inr (fun i => if i < 8 then some (r1 i) else none)))))), ((r1 jx), .inl (g 0, 0, .inl (fun _ => 0))), ((b 1), .inl (g 0, 200, .inl (fun _ => 0))), ((b 2), .inl (g 0, 200, .inl (fun _ => 0))), ((b 5), .inl (g 0, 5, .inl stf))] := hD
    refine lv_aload_n hx hb dX13_clear_23 rfl (lv_at hl 1 rfl) ?_
    refine va_get (D := (dC, dI)) (ci := 15) (v := .ref (b 3)) (C := RX13) (T := TX13) (N := 14) hx hb hts hiX13 hown hK hP 0 rfl rfl 4 (by decide) hf29 (fun _ h9 => h9) rfl dX13_clear_24 ?_
    refine lv_iload_n hx hb dX13_clear_27 rfl (lv_at hl 2 rfl) ?_
    refine lv_iconst (v := 0) hx hb dX13_clear_28 (by decide) ?_
    refine va_newa (atype := .int) (a0 := (0, .inl (fun _ => 0))) hx hb hnaint rfl hK hP hD hS hA (fun _ => rfl) (by decide) (N' := 0) (by decide) (Nat.le_of_ble_eq_true rfl) (Nat.le_of_ble_eq_true rfl) (Nat.le_of_ble_eq_true rfl) dX13_clear_29 (fun q_5 cA_7 H_6 hK9 hP hD hS => ?_)
    obtain rfl : g 0 = cA_7 := K_one hK9 0 6 rfl rfl
    have hP : va_P (dC, dI) vwCl [((b 0), .inr (15, [.int (cd (TOKb (nI jx)) true true), .ref (b 1), .ref (b 2), .int 0, .ref (b 3), .ref (b 4), .ref (b 5), .null, .ref (b 6), .int 0, .int 0, .int 0, .int 0, .int 0])), ((b 3), .inl (g 4, 8, .inr (.inr (.inr (.inr (fun i => if i < 8 then some (r1 i) else none)))))), ((r1 jx), .inl (g 0, 0, .inl (fun _ => 0))), ((b 1), .inl (g 0, 200, .inl (fun _ => 0))), ((b 2), .inl (g 0, 200, .inl (fun _ => 0))), ((b 5), .inl (g 0, 5, .inl stf)), (q_5, .inl (g 0, 0, .inl (fun _ => 0)))] H_6 := hP
    have hD : va_D A [((b 0), .inr (15, [.int (cd (TOKb (nI jx)) true true), .ref (b 1), .ref (b 2), .int 0, .ref (b 3), .ref (b 4), .ref (b 5), .null, .ref (b 6), .int 0, .int 0, .int 0, .int 0, .int 0])), ((b 3), .inl (g 4, 8, .inr (.inr (.inr (.inr (fun i => if i < 8 then some (r1 i) else none)))))), ((r1 jx), .inl (g 0, 0, .inl (fun _ => 0))), ((b 1), .inl (g 0, 200, .inl (fun _ => 0))), ((b 2), .inl (g 0, 200, .inl (fun _ => 0))), ((b 5), .inl (g 0, 5, .inl stf)), (q_5, .inl (g 0, 0, .inl (fun _ => 0)))] := hD
    refine W.widen (k := 1) (n := 0) (by omega) (by omega) ?_
    refine va_astA hx hb hK (ao_3 hG) hP hD hS 1 6 rfl rfl (vp_in_nI hjx (by decide)) dX13_clear_31 (fun H_8 L_9 hP hD hS => ?_)
    have hP : va_P (dC, dI) vwCl [((b 0), .inr (15, [.int (cd (TOKb (nI jx)) true true), .ref (b 1), .ref (b 2), .int 0, .ref (b 3), .ref (b 4), .ref (b 5), .null, .ref (b 6), .int 0, .int 0, .int 0, .int 0, .int 0])), ((b 3), .inl (g 4, 8, .inr (.inr (.inr (.inr (va_up (fun i => if i < 8 then some (r1 i) else none) (nI jx).toNatClampNeg (some q_5))))))), ((r1 jx), .inl (g 0, 0, .inl (fun _ => 0))), ((b 1), .inl (g 0, 200, .inl (fun _ => 0))), ((b 2), .inl (g 0, 200, .inl (fun _ => 0))), ((b 5), .inl (g 0, 5, .inl stf)), (q_5, .inl (g 0, 0, .inl (fun _ => 0)))] H_8 := hP
    have hD : va_D A [((b 0), .inr (15, [.int (cd (TOKb (nI jx)) true true), .ref (b 1), .ref (b 2), .int 0, .ref (b 3), .ref (b 4), .ref (b 5), .null, .ref (b 6), .int 0, .int 0, .int 0, .int 0, .int 0])), ((b 3), .inl (g 4, 8, .inr (.inr (.inr (.inr (va_up (fun i => if i < 8 then some (r1 i) else none) (nI jx).toNatClampNeg (some q_5))))))), ((r1 jx), .inl (g 0, 0, .inl (fun _ => 0))), ((b 1), .inl (g 0, 200, .inl (fun _ => 0))), ((b 2), .inl (g 0, 200, .inl (fun _ => 0))), ((b 5), .inl (g 0, 5, .inl stf)), (q_5, .inl (g 0, 0, .inl (fun _ => 0)))] := hD
    refine lv_iload_n hx hb dX13_clear_32 rfl (lv_at hl 0 rfl) ?_
    have hcd : (cd (TOKb (nI jx)) true true) = (cd (TOKb (nI jx)) true true) := rfl
    have hP8 := hP.sub (ws' := [((b 0), .inr (15, [.int (cd (TOKb (nI jx)) true true), .ref (b 1), .ref (b 2), .int 0, .ref (b 3), .ref (b 4), .ref (b 5), .null, .ref (b 6), .int 0, .int 0, .int 0, .int 0, .int 0]))]) [0] rfl
    rw [hcd] at hP8
    exact W.iret (v := 0) hx hb hr (fun t ht hW => ⟨⟨0, (), rfl, (fun h => by first | rfl | (exact absurd (cd_0.mp h) (by simp [(TOK_j hjx rfl)]))), ⟨[.ref (b 1), .ref (b 2), .int 0, .ref (b 3), .ref (b 4), .ref (b 5), .null, .ref (b 6), .int 0, .int 0, .int 0, .int 0, .int 0], P_at ht hP8⟩⟩, hS.F ht⟩) hS.2.2 dX13_clear_33
  · have hB_4 : (TOKb x) = false := b2i_0 c_3
    refine lv_iconst (v := 0) hx hb dX13_clear_13 (by decide) ?_
    refine W.widen (k := 1) (n := 0) (by omega) (by omega) ?_
    have hcd : (cd (TOKb x) true true) = (cd (TOKb x) true true) := rfl
    have hP8 := hP.sub (ws' := [((b 0), .inr (15, [.int (cd (TOKb x) true true), .ref (b 1), .ref (b 2), .int 0, .ref (b 3), .ref (b 4), .ref (b 5), .null, .ref (b 6), .int 0, .int 0, .int 0, .int 0, .int 0]))]) [0] rfl
    rw [hcd] at hP8
    exact W.iret (v := 0) hx hb hr (fun t ht hW => ⟨⟨0, (), rfl, (fun h => by first | rfl | (exact absurd (cd_0.mp h) (by simp [hB_4]))), ⟨[.ref (b 1), .ref (b 2), .int 0, .ref (b 3), .ref (b 4), .ref (b 5), .null, .ref (b 6), .int 0, .int 0, .int 0, .int 0, .int 0], P_at ht hP8⟩⟩, hS.F ht⟩) hS.2.2 dX13_clear_14
set_option maxHeartbeats 4000000 in
set_option maxRecDepth 100000 in
theorem c_X13_copy (l : Launch) (dC : Nat → ClassId) (dI : Nat → Nat → Nat) (g : Nat → ClassId) (b : Nat → Nat) (r1 : Nat → Nat) (r2 : Nat → Nat) (x : Int32) (y : Int32) (th : Int32) (sz : Nat) : Met l yX13_copy wsX13_copy ({ frames := 2, cells := 0, slots := 0, locals := 42 }) (va_Pc [.ref (b 0), .int x, .int y] (PG (dC, dI) g (modW b r1 r2 g th) sz)) (va_Qi (fun (r : Int32) (_ : Unit) => (cd (TOKb x && TOKb y) true true) = 0 → r = 0) (fun (_ : Unit) t => ∃ fs : List Value, va_P (dC, dI) vwCl [(b 0, .inr (15, .int (cd (TOKb x && TOKb y) true true) :: fs))] t.heap) (va_A (modW b r1 r2 g th) sz)) 0 0 (va_A (modW b r1 r2 g th) sz) := by
  refine Met.ofW (cc := cX13_copy) (maxL := 3) (ret := (some .int)) (by decide) rfl ?_
  intro p e s m args below meth c s₁ B hml hv
  obtain ⟨rfl, hsz, hP, hK, hD0, hG⟩ := hv
  have hx := B.exec
  have hb := B.bytes
  have hr := B.returns
  have hts := atoms_spec (ws := wsX13_copy) B.pre
  have hown : s.vm.findClass RX13 = some m.cls := findClass_of_methodNamed B.named
  have hlocks := B.notSynchronized
  subst hsz
  have hD := hD0.self (sz := s.heap.size)
  generalize hAe : va_A (modW b r1 r2 g th) s.heap.size = A at hD hG ⊢
  have hA : ∀ q : Nat, s.heap.size ≤ q → A q := fun q h => by rw [← hAe]; exact Or.inr h
  have hS : va_S A s.heap s.heap [] := va_S.rf
  have hl := lv_entry ([.ref (b 0), .int x, .int y]) (n := 3) (Nat.le_of_ble_eq_true rfl)
  rw [lg_entry_eq]
  generalize (lg_sl ([.ref (b 0), .int x, .int y]) ++ List.replicate (3 - (lg_sl ([.ref (b 0), .int x, .int y])).length) Slot.unset).toArray = ls at hl ⊢
  have hl : lv_has ls 3 [(0, .ref (b 0)), (1, .int x), (2, .int y)] := hl
  have hf29 := hts (Cond.fieldLink RX13 29 "RunmergeOfficeModel" "tapes" "[[I") (by decide +kernel)
  have hiX13 : ∀ w ∈ u_ws RX13 TX13 14, w ∈ wsX13_copy := by decide +kernel
  refine lv_aload_n hx hb dX13_copy_0 rfl (lv_at hl 0 rfl) ?_
  refine lv_iload_n hx hb dX13_copy_1 rfl (lv_at hl 1 rfl) ?_
  refine va_calli (va_runS (As := [.int x]) (rest := [.ref (b 0)]) ⟨hx, hb, hml, hown, hts⟩ (c_X13_isTape l dC dI g (modW b r1 r2 g th) x   s.heap.size) (va_cwS 1 hts gX13_copy_X13_isTape rfl rfl rfl (by decide +kernel) ⟨Nat.le_of_ble_eq_true rfl, Nat.le_of_ble_eq_true rfl⟩) ⟨PG_blind, PG_call hK hG hS hP hD (A_all hD hA hS.1)⟩ rfl rfl hl.1 rfl (lv_room (Nat.le_of_ble_eq_true rfl)) dX13_copy_2 ⟨Nat.le_of_ble_eq_true rfl, Nat.le_of_ble_eq_true rfl⟩) hS (fun q _ h => (A_all hD hA hS.1) q h) (A_all hD hA hS.1) (fun r_1 u_1 t_1 H_1 L_1 ht_1 hvm_1 hw_1 hB_1 hz_1 hk_1 hS => ?_)
  replace hB_1 := (show va_P (dC, dI) vwCl (modW b r1 r2 g th) t_1.heap from hB_1)
  rw [ht_1] at hB_1
  have hP := hB_1
  obtain rfl : r_1 = b2i (TOKb x) := hw_1
  refine lv_if_eq (tgt := 19) hx hb dX13_copy_5 (by decide) (fun c_2 => ?_) (fun c_2 => ?_)
  · have hB_3 : (TOKb x) = false := b2i_0 c_2
    refine lv_iconst (v := 0) hx hb dX13_copy_19 (by decide) ?_
    refine lv_iconst (v := 1) hx hb dX13_copy_20 (by decide) ?_
    refine lv_iconst (v := 1) hx hb dX13_copy_21 (by decide) ?_
    refine va_calli (va_runV (As := [.int 0, .int 1, .int 1]) (rest := []) ⟨hx, hb, hml, hown, hts⟩ (c_X13_passes l dC dI g b r1 r2 th false true true  H_1.size) (cwV 3 hts gX13_copy_X13_passes rfl rfl rfl (by decide +kernel) ⟨Nat.le_of_ble_eq_true rfl, Nat.le_of_ble_eq_true rfl⟩) ⟨PG_blind, va_recv hK hP (ci := 15) (q0 := 0) rfl (m_0 b r1 r2 g th), PG_call hK hG hS hP hD (A_all hD hA hS.1)⟩ rfl rfl hl.1 rfl (lv_room (Nat.le_of_ble_eq_true rfl)) dX13_copy_22 ⟨Nat.le_of_ble_eq_true rfl, Nat.le_of_ble_eq_true rfl⟩) hS (fun q _ h => (A_all hD hA hS.1) q h) (A_all hD hA hS.1) (fun r_4 u_4 t_4 H_4 L_4 ht_4 hvm_4 hw_4 hB_4 hz_4 hk_4 hS => ?_)
    rw [ht_4] at hB_4
    have hP : va_P (dC, dI) vwCl (modW b r1 r2 g (cd false true true)) H_4 := hB_4
    have hD : va_D A (modW b r1 r2 g (cd false true true)) := va_D_th hD
    obtain rfl : r_4 = 0 := hw_4.trans (by simp [b2i])
    refine lv_if_ne (tgt := 30) hx hb dX13_copy_25 (by decide) (fun c_5 => absurd (by decide) c_5) (fun c_5 => ?_)
    refine lv_iconst (v := 0) hx hb dX13_copy_28 (by decide) ?_
    have hcd : (cd false true true) = (cd (TOKb x && TOKb y) true true) := by simp [cd, hB_3]
    have hP8 := hP.sub (ws' := [((b 0), .inr (15, [.int (cd false true true), .ref (b 1), .ref (b 2), .int 0, .ref (b 3), .ref (b 4), .ref (b 5), .null, .ref (b 6), .int 0, .int 0, .int 0, .int 0, .int 0]))]) [0] rfl
    rw [hcd] at hP8
    exact W.iret (v := 0) hx hb hr (fun t ht hW => ⟨⟨0, (), rfl, (fun h => by first | rfl | (exact absurd (cd_0.mp h) (by simp [hB_3]))), ⟨[.ref (b 1), .ref (b 2), .int 0, .ref (b 3), .ref (b 4), .ref (b 5), .null, .ref (b 6), .int 0, .int 0, .int 0, .int 0, .int 0], P_at ht hP8⟩⟩, hS.F ht⟩) hS.2.2 dX13_copy_29
  · have hB_3 : (TOKb x) = true := b2i_1 c_2
    obtain ⟨jx, hjx, rfl⟩ := TOK_ex hB_3
    refine lv_iload_n hx hb dX13_copy_8 rfl (lv_at hl 2 rfl) ?_
    refine va_calli (va_runS (As := [.int y]) (rest := [.ref (b 0)]) ⟨hx, hb, hml, hown, hts⟩ (c_X13_isTape l dC dI g (modW b r1 r2 g th) y   H_1.size) (va_cwS 1 hts gX13_copy_X13_isTape rfl rfl rfl (by decide +kernel) ⟨Nat.le_of_ble_eq_true rfl, Nat.le_of_ble_eq_true rfl⟩) ⟨PG_blind, PG_call hK hG hS hP hD (A_all hD hA hS.1)⟩ rfl rfl hl.1 rfl (lv_room (Nat.le_of_ble_eq_true rfl)) dX13_copy_9 ⟨Nat.le_of_ble_eq_true rfl, Nat.le_of_ble_eq_true rfl⟩) hS (fun q _ h => (A_all hD hA hS.1) q h) (A_all hD hA hS.1) (fun r_6 u_6 t_6 H_6 L_6 ht_6 hvm_6 hw_6 hB_6 hz_6 hk_6 hS => ?_)
    replace hB_6 := (show va_P (dC, dI) vwCl (modW b r1 r2 g th) t_6.heap from hB_6)
    rw [ht_6] at hB_6
    have hP := hB_6
    obtain rfl : r_6 = b2i (TOKb y) := hw_6
    refine lv_if_eq (tgt := 19) hx hb dX13_copy_12 (by decide) (fun c_7 => ?_) (fun c_7 => ?_)
    · have hB_8 : (TOKb y) = false := b2i_0 c_7
      refine lv_iconst (v := 0) hx hb dX13_copy_19 (by decide) ?_
      refine lv_iconst (v := 1) hx hb dX13_copy_20 (by decide) ?_
      refine lv_iconst (v := 1) hx hb dX13_copy_21 (by decide) ?_
      refine va_calli (va_runV (As := [.int 0, .int 1, .int 1]) (rest := []) ⟨hx, hb, hml, hown, hts⟩ (c_X13_passes l dC dI g b r1 r2 th false true true  H_6.size) (cwV 3 hts gX13_copy_X13_passes rfl rfl rfl (by decide +kernel) ⟨Nat.le_of_ble_eq_true rfl, Nat.le_of_ble_eq_true rfl⟩) ⟨PG_blind, va_recv hK hP (ci := 15) (q0 := 0) rfl (m_0 b r1 r2 g th), PG_call hK hG hS hP hD (A_all hD hA hS.1)⟩ rfl rfl hl.1 rfl (lv_room (Nat.le_of_ble_eq_true rfl)) dX13_copy_22 ⟨Nat.le_of_ble_eq_true rfl, Nat.le_of_ble_eq_true rfl⟩) hS (fun q _ h => (A_all hD hA hS.1) q h) (A_all hD hA hS.1) (fun r_9 u_9 t_9 H_9 L_9 ht_9 hvm_9 hw_9 hB_9 hz_9 hk_9 hS => ?_)
      rw [ht_9] at hB_9
      have hP : va_P (dC, dI) vwCl (modW b r1 r2 g (cd false true true)) H_9 := hB_9
      have hD : va_D A (modW b r1 r2 g (cd false true true)) := va_D_th hD
      obtain rfl : r_9 = 0 := hw_9.trans (by simp [b2i])
      refine lv_if_ne (tgt := 30) hx hb dX13_copy_25 (by decide) (fun c_10 => absurd (by decide) c_10) (fun c_10 => ?_)
      refine lv_iconst (v := 0) hx hb dX13_copy_28 (by decide) ?_
      have hcd : (cd false true true) = (cd (TOKb (nI jx) && TOKb y) true true) := by simp [cd, (TOK_j hjx rfl), hB_8]
      have hP8 := hP.sub (ws' := [((b 0), .inr (15, [.int (cd false true true), .ref (b 1), .ref (b 2), .int 0, .ref (b 3), .ref (b 4), .ref (b 5), .null, .ref (b 6), .int 0, .int 0, .int 0, .int 0, .int 0]))]) [0] rfl
      rw [hcd] at hP8
      exact W.iret (v := 0) hx hb hr (fun t ht hW => ⟨⟨0, (), rfl, (fun h => by first | rfl | (exact absurd (cd_0.mp h) (by simp [(TOK_j hjx rfl), hB_8]))), ⟨[.ref (b 1), .ref (b 2), .int 0, .ref (b 3), .ref (b 4), .ref (b 5), .null, .ref (b 6), .int 0, .int 0, .int 0, .int 0, .int 0], P_at ht hP8⟩⟩, hS.F ht⟩) hS.2.2 dX13_copy_29
    · have hB_8 : (TOKb y) = true := b2i_1 c_7
      obtain ⟨jy, hjy, rfl⟩ := TOK_ex hB_8
      refine lv_iconst (v := 1) hx hb dX13_copy_15 (by decide) ?_
      refine lv_goto (tgt := 20) hx hb dX13_copy_16 (by decide) ?_
      refine lv_iconst (v := 1) hx hb dX13_copy_20 (by decide) ?_
      refine lv_iconst (v := 1) hx hb dX13_copy_21 (by decide) ?_
      refine va_calli (va_runV (As := [.int 1, .int 1, .int 1]) (rest := []) ⟨hx, hb, hml, hown, hts⟩ (c_X13_passes l dC dI g b r1 r2 th true true true  H_6.size) (cwV 3 hts gX13_copy_X13_passes rfl rfl rfl (by decide +kernel) ⟨Nat.le_of_ble_eq_true rfl, Nat.le_of_ble_eq_true rfl⟩) ⟨PG_blind, va_recv hK hP (ci := 15) (q0 := 0) rfl (m_0 b r1 r2 g th), PG_call hK hG hS hP hD (A_all hD hA hS.1)⟩ rfl rfl hl.1 rfl (lv_room (Nat.le_of_ble_eq_true rfl)) dX13_copy_22 ⟨Nat.le_of_ble_eq_true rfl, Nat.le_of_ble_eq_true rfl⟩) hS (fun q _ h => (A_all hD hA hS.1) q h) (A_all hD hA hS.1) (fun r_11 u_11 t_11 H_11 L_11 ht_11 hvm_11 hw_11 hB_11 hz_11 hk_11 hS => ?_)
      rw [ht_11] at hB_11
      have hP : va_P (dC, dI) vwCl (modW b r1 r2 g (cd true true true)) H_11 := hB_11
      have hD : va_D A (modW b r1 r2 g (cd true true true)) := va_D_th hD
      obtain rfl : r_11 = 1 := hw_11.trans (by simp [b2i])
      refine lv_if_ne (tgt := 30) hx hb dX13_copy_25 (by decide) (fun c_12 => ?_) (fun c_12 => absurd c_12 (by decide))
      obtain ⟨hP, hD⟩ := mod_x b r1 r2 g (cd true true true) jx hjx hP hD
      have hP : va_P (dC, dI) vwCl [((b 0), .inr (15, [.int (cd true true true), .ref (b 1), .ref (b 2), .int 0, .ref (b 3), .ref (b 4), .ref (b 5), .null, .ref (b 6), .int 0, .int 0, .int 0, .int 0, .int 0])), ((b 3), .inl (g 4, 8, .inr (.inr (.inr (.inr (fun i => if i < 8 then some (r1 i) else none)))))), ((r1 jx), .inl (g 0, 0, .inl (fun _ => 0))), ((b 1), .inl (g 0, 200, .inl (fun _ => 0))), ((b 2), .inl (g 0, 200, .inl (fun _ => 0))), ((b 5), .inl (g 0, 5, .inl stf))] H_11 := hP
      have hD : va_D A [((b 0), .inr (15, [.int (cd true true true), .ref (b 1), .ref (b 2), .int 0, .ref (b 3), .ref (b 4), .ref (b 5), .null, .ref (b 6), .int 0, .int 0, .int 0, .int 0, .int 0])), ((b 3), .inl (g 4, 8, .inr (.inr (.inr (.inr (fun i => if i < 8 then some (r1 i) else none)))))), ((r1 jx), .inl (g 0, 0, .inl (fun _ => 0))), ((b 1), .inl (g 0, 200, .inl (fun _ => 0))), ((b 2), .inl (g 0, 200, .inl (fun _ => 0))), ((b 5), .inl (g 0, 5, .inl stf))] := hD
      refine lv_aload_n hx hb dX13_copy_30 rfl (lv_at hl 0 rfl) ?_
      refine va_get (D := (dC, dI)) (ci := 15) (v := .ref (b 3)) (C := RX13) (T := TX13) (N := 14) hx hb hts hiX13 hown hK hP 0 rfl rfl 4 (by decide) hf29 (fun _ h9 => h9) rfl dX13_copy_31 ?_
      refine lv_iload_n hx hb dX13_copy_34 rfl (lv_at hl 2 rfl) ?_
      refine lv_aload_n hx hb dX13_copy_35 rfl (lv_at hl 0 rfl) ?_
      refine va_get (D := (dC, dI)) (ci := 15) (v := .ref (b 3)) (C := RX13) (T := TX13) (N := 14) hx hb hts hiX13 hown hK hP 0 rfl rfl 4 (by decide) hf29 (fun _ h9 => h9) rfl dX13_copy_36 ?_
      refine lv_iload_n hx hb dX13_copy_39 rfl (lv_at hl 1 rfl) ?_
      refine va_aldA hx hb hK hP 1 rfl (vp_in_nI hjx (by decide)) dX13_copy_40 ?_
      refine W.eq (g2 := F0 m 41 ls [.ref (r1 jx), .int (nI jy), .ref (b 3)]) (by rw [nI_clamp (show jx < 2 ^ 31 by omega)]; simp only [if_pos hjx]; rfl) ?_
      refine va_astA hx hb hK (ao_3 hG) hP hD hS 1 2 rfl rfl (vp_in_nI hjy (by decide)) dX13_copy_41 (fun H_13 L_14 hP hD hS => ?_)
      have hP : va_P (dC, dI) vwCl [((b 0), .inr (15, [.int (cd true true true), .ref (b 1), .ref (b 2), .int 0, .ref (b 3), .ref (b 4), .ref (b 5), .null, .ref (b 6), .int 0, .int 0, .int 0, .int 0, .int 0])), ((b 3), .inl (g 4, 8, .inr (.inr (.inr (.inr (va_up (fun i => if i < 8 then some (r1 i) else none) (nI jy).toNatClampNeg (some (r1 jx)))))))), ((r1 jx), .inl (g 0, 0, .inl (fun _ => 0))), ((b 1), .inl (g 0, 200, .inl (fun _ => 0))), ((b 2), .inl (g 0, 200, .inl (fun _ => 0))), ((b 5), .inl (g 0, 5, .inl stf))] H_13 := hP
      have hD : va_D A [((b 0), .inr (15, [.int (cd true true true), .ref (b 1), .ref (b 2), .int 0, .ref (b 3), .ref (b 4), .ref (b 5), .null, .ref (b 6), .int 0, .int 0, .int 0, .int 0, .int 0])), ((b 3), .inl (g 4, 8, .inr (.inr (.inr (.inr (va_up (fun i => if i < 8 then some (r1 i) else none) (nI jy).toNatClampNeg (some (r1 jx)))))))), ((r1 jx), .inl (g 0, 0, .inl (fun _ => 0))), ((b 1), .inl (g 0, 200, .inl (fun _ => 0))), ((b 2), .inl (g 0, 200, .inl (fun _ => 0))), ((b 5), .inl (g 0, 5, .inl stf))] := hD
      refine lv_aload_n hx hb dX13_copy_42 rfl (lv_at hl 0 rfl) ?_
      refine va_get (D := (dC, dI)) (ci := 15) (v := .ref (b 3)) (C := RX13) (T := TX13) (N := 14) hx hb hts hiX13 hown hK hP 0 rfl rfl 4 (by decide) hf29 (fun _ h9 => h9) rfl dX13_copy_43 ?_
      refine lv_iload_n hx hb dX13_copy_46 rfl (lv_at hl 2 rfl) ?_
      refine va_aldA hx hb hK hP 1 rfl (vp_in_nI hjy (by decide)) dX13_copy_47 ?_
      refine W.eq (g2 := F0 m 48 ls [.ref (r1 jx)]) (by simp only [va_up, if_true]; rfl) ?_
      refine va_alen hx hb hK hP 2 0 rfl rfl (v := 0) rfl dX13_copy_48 ?_
      have hcd : (cd true true true) = (cd (TOKb (nI jx) && TOKb (nI jy)) true true) := by simp [cd, (TOK_j hjx rfl), (TOK_j hjy rfl)]
      have hP8 := hP.sub (ws' := [((b 0), .inr (15, [.int (cd true true true), .ref (b 1), .ref (b 2), .int 0, .ref (b 3), .ref (b 4), .ref (b 5), .null, .ref (b 6), .int 0, .int 0, .int 0, .int 0, .int 0]))]) [0] rfl
      rw [hcd] at hP8
      exact W.iret (v := 0) hx hb hr (fun t ht hW => ⟨⟨0, (), rfl, (fun h => by first | rfl | (exact absurd (cd_0.mp h) (by simp [(TOK_j hjx rfl), (TOK_j hjy rfl)]))), ⟨[.ref (b 1), .ref (b 2), .int 0, .ref (b 3), .ref (b 4), .ref (b 5), .null, .ref (b 6), .int 0, .int 0, .int 0, .int 0, .int 0], P_at ht hP8⟩⟩, hS.F ht⟩) hS.2.2 dX13_copy_49
set_option maxHeartbeats 4000000 in
set_option maxRecDepth 100000 in
theorem c_X13_turned (l : Launch) (dC : Nat → ClassId) (dI : Nat → Nat → Nat) (g : Nat → ClassId) (rw_ : Nat) (fr : Nat → Int32) (sz : Nat) : Met l yX13_turned wsX13_turned ({ frames := 0, cells := 1, slots := 0, locals := 0 }) (va_Pc [.ref rw_] (PG (dC, dI) g [(rw_, .inl (g 0, 0, .inl fr))] sz)) (va_Qq (fun (r : Option Nat) (u : Nat → Nat) => r = some (u 0)) (fun (u : Nat → Nat) t9 => va_P (dC, dI) vwCl [(rw_, .inl (g 0, 0, .inl fr)), ((u 0), .inl (g 0, 0, .inl (fun _ => 0)))] t9.heap ∧ va_D (va_A [(rw_, .inl (g 0, 0, .inl fr))] sz) [(rw_, .inl (g 0, 0, .inl fr)), ((u 0), .inl (g 0, 0, .inl (fun _ => 0)))]) (va_A [(rw_, .inl (g 0, 0, .inl fr))] sz)) 1 0 (va_A [(rw_, .inl (g 0, 0, .inl fr))] sz) := by
  refine Met.ofW (cc := cX13_turned) (maxL := 3) (ret := (some (.array .int))) (by decide) rfl ?_
  intro p e s m args below meth c s₁ B hml hv
  obtain ⟨rfl, hsz, hP, hK, hD0, hG⟩ := hv
  have hx := B.exec
  have hb := B.bytes
  have hr := B.returns
  have hts := atoms_spec (ws := wsX13_turned) B.pre
  have hown : s.vm.findClass RX13 = some m.cls := findClass_of_methodNamed B.named
  have hlocks := B.notSynchronized
  subst hsz
  have hD := hD0.self (sz := s.heap.size)
  generalize hAe : va_A [(rw_, .inl (g 0, 0, .inl fr))] s.heap.size = A at hD hG ⊢
  have hA : ∀ q : Nat, s.heap.size ≤ q → A q := fun q h => by rw [← hAe]; exact Or.inr h
  have hS : va_S A s.heap s.heap [] := va_S.rf
  have hl := lv_entry ([.ref rw_]) (n := 3) (Nat.le_of_ble_eq_true rfl)
  rw [lg_entry_eq]
  generalize (lg_sl ([.ref rw_]) ++ List.replicate (3 - (lg_sl ([.ref rw_])).length) Slot.unset).toArray = ls at hl ⊢
  have hl : lv_has ls 3 [(0, .ref rw_)] := hl
  have hnaint := hts (Cond.arrayClass (newarray.typeOf .int)) (by decide +kernel)
  refine lv_aload_n hx hb dX13_turned_0 rfl (lv_at hl 0 rfl) ?_
  refine va_alen hx hb hK hP 0 0 rfl rfl (v := 0) rfl dX13_turned_1 ?_
  refine va_newa (atype := .int) (a0 := (0, .inl (fun _ => 0))) hx hb hnaint rfl hK hP hD hS hA (fun _ => rfl) (by decide) (N' := 0) (by decide) (Nat.le_of_ble_eq_true rfl) (Nat.le_of_ble_eq_true rfl) (Nat.le_of_ble_eq_true rfl) dX13_turned_2 (fun q_1 cA_3 H_2 hK9 hP hD hS => ?_)
  obtain rfl : g 0 = cA_3 := K_one hK9 0 6 rfl rfl
  have hP : va_P (dC, dI) vwCl [(rw_, .inl (g 0, 0, .inl fr)), (q_1, .inl (g 0, 0, .inl (fun _ => 0)))] H_2 := hP
  have hD : va_D A [(rw_, .inl (g 0, 0, .inl fr)), (q_1, .inl (g 0, 0, .inl (fun _ => 0)))] := hD
  refine W.widen (k := 1) (n := 0) (by omega) (by omega) ?_
  refine lv_astore_n (lv' := [(1, .ref q_1), (0, .ref rw_)]) hx hb dX13_turned_4 rfl hl (by decide) rfl (fun ls hl => ?_)
  refine lv_iconst (v := 0) hx hb dX13_turned_5 (by decide) ?_
  refine lv_istore_n (lv' := [(2, .int 0), (1, .ref q_1), (0, .ref rw_)]) hx hb dX13_turned_6 rfl hl (by decide) rfl (fun ls hl => ?_)
  refine lv_iload_n hx hb dX13_turned_7 rfl (lv_at hl 0 rfl) ?_
  refine lv_aload_n hx hb dX13_turned_8 rfl (lv_at hl 2 rfl) ?_
  refine va_alen hx hb hK hP 0 0 rfl rfl (v := 0) rfl dX13_turned_9 ?_
  refine lv_icmp_ge (tgt := 30) hx hb dX13_turned_10 (by decide) (fun c_4 => ?_) (fun c_4 => absurd (by decide) c_4)
  refine lv_aload_n hx hb dX13_turned_30 rfl (lv_at hl 1 rfl) ?_
  have hP9 := hP.sub (ws' := [(rw_, .inl (g 0, 0, .inl fr)), (q_1, .inl (g 0, 0, .inl (fun _ => 0)))]) [0, 1] rfl
  have hD9 := hD.sub (ws' := [(rw_, .inl (g 0, 0, .inl fr)), (q_1, .inl (g 0, 0, .inl (fun _ => 0)))]) [0, 1] (by decide) rfl
  exact W.aret (v := .ref q_1) hx hb hr (Or.inr ⟨_, rfl⟩) (Or.inr ⟨_, rfl⟩) (fun t ht hW => ⟨⟨some q_1, (fun _ => q_1), rfl, rfl, ⟨P_at ht hP9, hD9⟩⟩, hS.F ht⟩) hS.2.2 dX13_turned_31
set_option maxHeartbeats 4000000 in
set_option maxRecDepth 100000 in
theorem c_X13_turn (l : Launch) (dC : Nat → ClassId) (dI : Nat → Nat → Nat) (g : Nat → ClassId) (b : Nat → Nat) (r1 : Nat → Nat) (r2 : Nat → Nat) (x : Int32) (th : Int32) (sz : Nat) : Met l yX13_turn wsX13_turn ({ frames := 2, cells := 1, slots := 0, locals := 42 }) (va_Pc [.ref (b 0), .int x] (PG (dC, dI) g (modW b r1 r2 g th) sz)) (va_Qi (fun (r : Int32) (_ : Unit) => (cd (TOKb x) true true) = 0 → r = 0) (fun (_ : Unit) t => ∃ fs : List Value, va_P (dC, dI) vwCl [(b 0, .inr (15, .int (cd (TOKb x) true true) :: fs))] t.heap) (va_A (modW b r1 r2 g th) sz)) 1 0 (va_A (modW b r1 r2 g th) sz) := by
  refine Met.ofW (cc := cX13_turn) (maxL := 2) (ret := (some .int)) (by decide) rfl ?_
  intro p e s m args below meth c s₁ B hml hv
  obtain ⟨rfl, hsz, hP, hK, hD0, hG⟩ := hv
  have hx := B.exec
  have hb := B.bytes
  have hr := B.returns
  have hts := atoms_spec (ws := wsX13_turn) B.pre
  have hown : s.vm.findClass RX13 = some m.cls := findClass_of_methodNamed B.named
  have hlocks := B.notSynchronized
  subst hsz
  have hD := hD0.self (sz := s.heap.size)
  generalize hAe : va_A (modW b r1 r2 g th) s.heap.size = A at hD hG ⊢
  have hA : ∀ q : Nat, s.heap.size ≤ q → A q := fun q h => by rw [← hAe]; exact Or.inr h
  have hS : va_S A s.heap s.heap [] := va_S.rf
  have hl := lv_entry ([.ref (b 0), .int x]) (n := 2) (Nat.le_of_ble_eq_true rfl)
  rw [lg_entry_eq]
  generalize (lg_sl ([.ref (b 0), .int x]) ++ List.replicate (2 - (lg_sl ([.ref (b 0), .int x])).length) Slot.unset).toArray = ls at hl ⊢
  have hl : lv_has ls 2 [(0, .ref (b 0)), (1, .int x)] := hl
  have hf29 := hts (Cond.fieldLink RX13 29 "RunmergeOfficeModel" "tapes" "[[I") (by decide +kernel)
  have hiX13 : ∀ w ∈ u_ws RX13 TX13 14, w ∈ wsX13_turn := by decide +kernel
  refine lv_aload_n hx hb dX13_turn_0 rfl (lv_at hl 0 rfl) ?_
  refine lv_iload_n hx hb dX13_turn_1 rfl (lv_at hl 1 rfl) ?_
  refine va_calli (va_runS (As := [.int x]) (rest := [.ref (b 0)]) ⟨hx, hb, hml, hown, hts⟩ (c_X13_isTape l dC dI g (modW b r1 r2 g th) x   s.heap.size) (va_cwS 1 hts gX13_turn_X13_isTape rfl rfl rfl (by decide +kernel) ⟨Nat.le_of_ble_eq_true rfl, Nat.le_of_ble_eq_true rfl⟩) ⟨PG_blind, PG_call hK hG hS hP hD (A_all hD hA hS.1)⟩ rfl rfl hl.1 rfl (lv_room (Nat.le_of_ble_eq_true rfl)) dX13_turn_2 ⟨Nat.le_of_ble_eq_true rfl, Nat.le_of_ble_eq_true rfl⟩) hS (fun q _ h => (A_all hD hA hS.1) q h) (A_all hD hA hS.1) (fun r_1 u_1 t_1 H_1 L_1 ht_1 hvm_1 hw_1 hB_1 hz_1 hk_1 hS => ?_)
  replace hB_1 := (show va_P (dC, dI) vwCl (modW b r1 r2 g th) t_1.heap from hB_1)
  rw [ht_1] at hB_1
  have hP := hB_1
  obtain rfl : r_1 = b2i (TOKb x) := hw_1
  refine lv_iconst (v := 1) hx hb dX13_turn_5 (by decide) ?_
  refine lv_iconst (v := 1) hx hb dX13_turn_6 (by decide) ?_
  refine va_calli (va_runV (As := [.int (b2i (TOKb x)), .int 1, .int 1]) (rest := []) ⟨hx, hb, hml, hown, hts⟩ (c_X13_passes l dC dI g b r1 r2 th (TOKb x) true true  H_1.size) (cwV 3 hts gX13_turn_X13_passes rfl rfl rfl (by decide +kernel) ⟨Nat.le_of_ble_eq_true rfl, Nat.le_of_ble_eq_true rfl⟩) ⟨PG_blind, va_recv hK hP (ci := 15) (q0 := 0) rfl (m_0 b r1 r2 g th), PG_call hK hG hS hP hD (A_all hD hA hS.1)⟩ rfl rfl hl.1 rfl (lv_room (Nat.le_of_ble_eq_true rfl)) dX13_turn_7 ⟨Nat.le_of_ble_eq_true rfl, Nat.le_of_ble_eq_true rfl⟩) hS (fun q _ h => (A_all hD hA hS.1) q h) (A_all hD hA hS.1) (fun r_2 u_2 t_2 H_2 L_2 ht_2 hvm_2 hw_2 hB_2 hz_2 hk_2 hS => ?_)
  rw [ht_2] at hB_2
  have hP : va_P (dC, dI) vwCl (modW b r1 r2 g (cd (TOKb x) true true)) H_2 := hB_2
  have hD : va_D A (modW b r1 r2 g (cd (TOKb x) true true)) := va_D_th hD
  obtain rfl : r_2 = b2i (TOKb x) := hw_2.trans (by simp)
  refine lv_if_ne (tgt := 15) hx hb dX13_turn_10 (by decide) (fun c_3 => ?_) (fun c_3 => ?_)
  · have hB_4 : (TOKb x) = true := b2i_1 c_3
    obtain ⟨jx, hjx, rfl⟩ := TOK_ex hB_4
    obtain ⟨hP, hD⟩ := mod_x b r1 r2 g (cd (TOKb (nI jx)) true true) jx hjx hP hD
    have hP : va_P (dC, dI) vwCl [((b 0), .inr (15, [.int (cd (TOKb (nI jx)) true true), .ref (b 1), .ref (b 2), .int 0, .ref (b 3), .ref (b 4), .ref (b 5), .null, .ref (b 6), .int 0, .int 0, .int 0, .int 0, .int 0])), ((b 3), .inl (g 4, 8, .inr (.inr (.inr (.inr (fun i => if i < 8 then some (r1 i) else none)))))), ((r1 jx), .inl (g 0, 0, .inl (fun _ => 0))), ((b 1), .inl (g 0, 200, .inl (fun _ => 0))), ((b 2), .inl (g 0, 200, .inl (fun _ => 0))), ((b 5), .inl (g 0, 5, .inl stf))] H_2 := hP
    have hD : va_D A [((b 0), .inr (15, [.int (cd (TOKb (nI jx)) true true), .ref (b 1), .ref (b 2), .int 0, .ref (b 3), .ref (b 4), .ref (b 5), .null, .ref (b 6), .int 0, .int 0, .int 0, .int 0, .int 0])), ((b 3), .inl (g 4, 8, .inr (.inr (.inr (.inr (fun i => if i < 8 then some (r1 i) else none)))))), ((r1 jx), .inl (g 0, 0, .inl (fun _ => 0))), ((b 1), .inl (g 0, 200, .inl (fun _ => 0))), ((b 2), .inl (g 0, 200, .inl (fun _ => 0))), ((b 5), .inl (g 0, 5, .inl stf))] := hD
    refine lv_aload_n hx hb dX13_turn_15 rfl (lv_at hl 0 rfl) ?_
    refine va_get (D := (dC, dI)) (ci := 15) (v := .ref (b 3)) (C := RX13) (T := TX13) (N := 14) hx hb hts hiX13 hown hK hP 0 rfl rfl 4 (by decide) hf29 (fun _ h9 => h9) rfl dX13_turn_16 ?_
    refine lv_iload_n hx hb dX13_turn_19 rfl (lv_at hl 1 rfl) ?_
    refine lv_aload_n hx hb dX13_turn_20 rfl (lv_at hl 0 rfl) ?_
    refine va_get (D := (dC, dI)) (ci := 15) (v := .ref (b 3)) (C := RX13) (T := TX13) (N := 14) hx hb hts hiX13 hown hK hP 0 rfl rfl 4 (by decide) hf29 (fun _ h9 => h9) rfl dX13_turn_21 ?_
    refine lv_iload_n hx hb dX13_turn_24 rfl (lv_at hl 1 rfl) ?_
    refine va_aldA hx hb hK hP 1 rfl (vp_in_nI hjx (by decide)) dX13_turn_25 ?_
    refine W.eq (g2 := F0 m 26 ls [.ref (r1 jx), .int (nI jx), .ref (b 3)]) (by rw [nI_clamp (show jx < 2 ^ 31 by omega)]; simp only [if_pos hjx]; rfl) ?_
    have hPc := hP.sub (ws' := [((r1 jx), .inl (g 0, 0, .inl (fun _ => 0)))]) [2] rfl
    have hDc := hD.sub (ws' := [((r1 jx), .inl (g 0, 0, .inl (fun _ => 0)))]) [2] (by decide) rfl
    have hFc := va_free (wc := [((r1 jx), .inl (g 0, 0, .inl (fun _ => 0)))]) hD hS hA [2] rfl
    refine va_callq (va_runS (As := [.ref (r1 jx)]) (rest := [.int (nI jx), .ref (b 3)]) ⟨hx, hb, hml, hown, hts⟩ (c_X13_turned l dC dI g (r1 jx) (fun _ => 0)  H_2.size) (va_cwS 1 hts gX13_turn_X13_turned rfl rfl rfl (by decide +kernel) ⟨Nat.le_of_ble_eq_true rfl, Nat.le_of_ble_eq_true rfl⟩) ⟨PG_blind, PG_call hK hG hS hPc hDc hFc⟩ rfl rfl hl.1 rfl (lv_room (Nat.le_of_ble_eq_true rfl)) dX13_turn_26 ⟨Nat.le_of_ble_eq_true rfl, Nat.le_of_ble_eq_true rfl⟩) hS (fun q _ h => hFc q h) hFc (fun r_5 u_5 t_5 H_5 L_5 ht_5 hvm_5 hw_5 hB_5 hz_5 hk_5 hS => ?_)
    obtain ⟨hP1, hD1⟩ := hB_5
    rw [ht_5] at hP1
    obtain ⟨hP, hD⟩ := va_join (wr := [((b 0), .inr (15, [.int (cd (TOKb (nI jx)) true true), .ref (b 1), .ref (b 2), .int 0, .ref (b 3), .ref (b 4), .ref (b 5), .null, .ref (b 6), .int 0, .int 0, .int 0, .int 0, .int 0])), ((b 3), .inl (g 4, 8, .inr (.inr (.inr (.inr (fun i => if i < 8 then some (r1 i) else none)))))), ((b 1), .inl (g 0, 200, .inl (fun _ => 0))), ((b 2), .inl (g 0, 200, .inl (fun _ => 0))), ((b 5), .inl (g 0, 5, .inl stf))]) (w1 := [((r1 jx), .inl (g 0, 0, .inl (fun _ => 0))), ((u_5 0), .inl (g 0, 0, .inl (fun _ => 0)))]) hP hD [2] [0, 1, 3, 4, 5] rfl rfl (by decide) (by decide) hk_5 hFc hP1 hD1
    have hP : va_P (dC, dI) vwCl [((b 0), .inr (15, [.int (cd (TOKb (nI jx)) true true), .ref (b 1), .ref (b 2), .int 0, .ref (b 3), .ref (b 4), .ref (b 5), .null, .ref (b 6), .int 0, .int 0, .int 0, .int 0, .int 0])), ((b 3), .inl (g 4, 8, .inr (.inr (.inr (.inr (fun i => if i < 8 then some (r1 i) else none)))))), ((b 1), .inl (g 0, 200, .inl (fun _ => 0))), ((b 2), .inl (g 0, 200, .inl (fun _ => 0))), ((b 5), .inl (g 0, 5, .inl stf)), ((r1 jx), .inl (g 0, 0, .inl (fun _ => 0))), ((u_5 0), .inl (g 0, 0, .inl (fun _ => 0)))] H_5 := hP
    have hD : va_D A [((b 0), .inr (15, [.int (cd (TOKb (nI jx)) true true), .ref (b 1), .ref (b 2), .int 0, .ref (b 3), .ref (b 4), .ref (b 5), .null, .ref (b 6), .int 0, .int 0, .int 0, .int 0, .int 0])), ((b 3), .inl (g 4, 8, .inr (.inr (.inr (.inr (fun i => if i < 8 then some (r1 i) else none)))))), ((b 1), .inl (g 0, 200, .inl (fun _ => 0))), ((b 2), .inl (g 0, 200, .inl (fun _ => 0))), ((b 5), .inl (g 0, 5, .inl stf)), ((r1 jx), .inl (g 0, 0, .inl (fun _ => 0))), ((u_5 0), .inl (g 0, 0, .inl (fun _ => 0)))] := hD
    refine W.widen (k := 1) (n := 0) (by omega) (by omega) ?_
    obtain rfl : r_5 = some (u_5 0) := hw_5
    refine W.eq (g2 := F0 m 29 ls [.ref (u_5 0), .int (nI jx), .ref (b 3)]) rfl ?_
    refine va_astA hx hb hK (ao_3 hG) hP hD hS 1 6 rfl rfl (vp_in_nI hjx (by decide)) dX13_turn_29 (fun H_6 L_7 hP hD hS => ?_)
    have hP : va_P (dC, dI) vwCl [((b 0), .inr (15, [.int (cd (TOKb (nI jx)) true true), .ref (b 1), .ref (b 2), .int 0, .ref (b 3), .ref (b 4), .ref (b 5), .null, .ref (b 6), .int 0, .int 0, .int 0, .int 0, .int 0])), ((b 3), .inl (g 4, 8, .inr (.inr (.inr (.inr (va_up (fun i => if i < 8 then some (r1 i) else none) (nI jx).toNatClampNeg (some (u_5 0)))))))), ((b 1), .inl (g 0, 200, .inl (fun _ => 0))), ((b 2), .inl (g 0, 200, .inl (fun _ => 0))), ((b 5), .inl (g 0, 5, .inl stf)), ((r1 jx), .inl (g 0, 0, .inl (fun _ => 0))), ((u_5 0), .inl (g 0, 0, .inl (fun _ => 0)))] H_6 := hP
    have hD : va_D A [((b 0), .inr (15, [.int (cd (TOKb (nI jx)) true true), .ref (b 1), .ref (b 2), .int 0, .ref (b 3), .ref (b 4), .ref (b 5), .null, .ref (b 6), .int 0, .int 0, .int 0, .int 0, .int 0])), ((b 3), .inl (g 4, 8, .inr (.inr (.inr (.inr (va_up (fun i => if i < 8 then some (r1 i) else none) (nI jx).toNatClampNeg (some (u_5 0)))))))), ((b 1), .inl (g 0, 200, .inl (fun _ => 0))), ((b 2), .inl (g 0, 200, .inl (fun _ => 0))), ((b 5), .inl (g 0, 5, .inl stf)), ((r1 jx), .inl (g 0, 0, .inl (fun _ => 0))), ((u_5 0), .inl (g 0, 0, .inl (fun _ => 0)))] := hD
    refine lv_aload_n hx hb dX13_turn_30 rfl (lv_at hl 0 rfl) ?_
    refine va_get (D := (dC, dI)) (ci := 15) (v := .ref (b 3)) (C := RX13) (T := TX13) (N := 14) hx hb hts hiX13 hown hK hP 0 rfl rfl 4 (by decide) hf29 (fun _ h9 => h9) rfl dX13_turn_31 ?_
    refine lv_iload_n hx hb dX13_turn_34 rfl (lv_at hl 1 rfl) ?_
    refine va_aldA hx hb hK hP 1 rfl (vp_in_nI hjx (by decide)) dX13_turn_35 ?_
    refine W.eq (g2 := F0 m 36 ls [.ref (u_5 0)]) (by simp only [va_up, if_true]; rfl) ?_
    refine va_alen hx hb hK hP 6 0 rfl rfl (v := 0) rfl dX13_turn_36 ?_
    have hcd : (cd (TOKb (nI jx)) true true) = (cd (TOKb (nI jx)) true true) := rfl
    have hP8 := hP.sub (ws' := [((b 0), .inr (15, [.int (cd (TOKb (nI jx)) true true), .ref (b 1), .ref (b 2), .int 0, .ref (b 3), .ref (b 4), .ref (b 5), .null, .ref (b 6), .int 0, .int 0, .int 0, .int 0, .int 0]))]) [0] rfl
    rw [hcd] at hP8
    exact W.iret (v := 0) hx hb hr (fun t ht hW => ⟨⟨0, (), rfl, (fun h => by first | rfl | (exact absurd (cd_0.mp h) (by simp [(TOK_j hjx rfl)]))), ⟨[.ref (b 1), .ref (b 2), .int 0, .ref (b 3), .ref (b 4), .ref (b 5), .null, .ref (b 6), .int 0, .int 0, .int 0, .int 0, .int 0], P_at ht hP8⟩⟩, hS.F ht⟩) hS.2.2 dX13_turn_37
  · have hB_4 : (TOKb x) = false := b2i_0 c_3
    refine lv_iconst (v := 0) hx hb dX13_turn_13 (by decide) ?_
    refine W.widen (k := 1) (n := 0) (by omega) (by omega) ?_
    have hcd : (cd (TOKb x) true true) = (cd (TOKb x) true true) := rfl
    have hP8 := hP.sub (ws' := [((b 0), .inr (15, [.int (cd (TOKb x) true true), .ref (b 1), .ref (b 2), .int 0, .ref (b 3), .ref (b 4), .ref (b 5), .null, .ref (b 6), .int 0, .int 0, .int 0, .int 0, .int 0]))]) [0] rfl
    rw [hcd] at hP8
    exact W.iret (v := 0) hx hb hr (fun t ht hW => ⟨⟨0, (), rfl, (fun h => by first | rfl | (exact absurd (cd_0.mp h) (by simp [hB_4]))), ⟨[.ref (b 1), .ref (b 2), .int 0, .ref (b 3), .ref (b 4), .ref (b 5), .null, .ref (b 6), .int 0, .int 0, .int 0, .int 0, .int 0], P_at ht hP8⟩⟩, hS.F ht⟩) hS.2.2 dX13_turn_14
