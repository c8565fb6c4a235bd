theorem dX13_sortedShare_0 : decode cX13_sortedShare 0 = .ok (.aload_n 0, 1) := by decide +kernel
theorem dX13_sortedShare_1 : decode cX13_sortedShare 1 = .ok (.iconst 0, 1) := by decide +kernel
theorem dX13_sortedShare_2 : decode cX13_sortedShare 2 = .ok (.putfield 1, 3) := by decide +kernel
theorem dX13_sortedShare_5 : decode cX13_sortedShare 5 = .ok (.iconst 0, 1) := by decide +kernel
theorem dX13_sortedShare_6 : decode cX13_sortedShare 6 = .ok (.istore_n 1, 1) := by decide +kernel
theorem dX13_sortedShare_7 : decode cX13_sortedShare 7 = .ok (.iconst 0, 1) := by decide +kernel
theorem dX13_sortedShare_8 : decode cX13_sortedShare 8 = .ok (.istore_n 2, 1) := by decide +kernel
theorem dX13_sortedShare_9 : decode cX13_sortedShare 9 = .ok (.iload_n 2, 1) := by decide +kernel
theorem dX13_sortedShare_10 : decode cX13_sortedShare 10 = .ok (.bipush 8, 2) := by decide +kernel
theorem dX13_sortedShare_12 : decode cX13_sortedShare 12 = .ok (.if_icmp .ge 31, 3) := by decide +kernel
theorem dX13_sortedShare_15 : decode cX13_sortedShare 15 = .ok (.iload_n 1, 1) := by decide +kernel
theorem dX13_sortedShare_16 : decode cX13_sortedShare 16 = .ok (.aload_n 0, 1) := by decide +kernel
theorem dX13_sortedShare_17 : decode cX13_sortedShare 17 = .ok (.aload_n 0, 1) := by decide +kernel
theorem dX13_sortedShare_18 : decode cX13_sortedShare 18 = .ok (.getfield 29, 3) := by decide +kernel
theorem dX13_sortedShare_21 : decode cX13_sortedShare 21 = .ok (.iload_n 2, 1) := by decide +kernel
theorem dX13_sortedShare_22 : decode cX13_sortedShare 22 = .ok (.aaload, 1) := by decide +kernel
theorem dX13_sortedShare_23 : decode cX13_sortedShare 23 = .ok (.iconst 0, 1) := by decide +kernel
set_option maxRecDepth 20000 in
theorem ggX13_sortedShare_X13_isInOrder : GoodIn wsX13_sortedShare wsX13_isInOrder := goodIn_r _ [8, 9, 10, 11, 7, 12, 13, 14, 15, 16, 17, 18, 19, 20, 21, 22, 23, 24, 25, 26, 27] (by decide +kernel) (by decide +kernel)
set_option maxRecDepth 20000 in
theorem gX13_sortedShare_X13_isInOrder : GoodIn wsX13_sortedShare (wsV RX13 71 RX13 yX13_isInOrder wsX13_isInOrder) := goodIn_app (goodIn_of _ (by decide +kernel)) ggX13_sortedShare_X13_isInOrder
theorem dX13_sortedShare_24 : decode cX13_sortedShare 24 = .ok (.invokevirtual 71, 3) := by decide +kernel
theorem dX13_sortedShare_27 : decode cX13_sortedShare 27 = .ok (.ifCond .eq 7, 3) := by decide +kernel
theorem dX13_sortedShare_30 : decode cX13_sortedShare 30 = .ok (.iconst 1, 1) := by decide +kernel
theorem dX13_sortedShare_31 : decode cX13_sortedShare 31 = .ok (.goto 4, 3) := by decide +kernel
theorem dX13_sortedShare_35 : decode cX13_sortedShare 35 = .ok (.iadd, 1) := by decide +kernel
theorem dX13_sortedShare_36 : decode cX13_sortedShare 36 = .ok (.istore_n 1, 1) := by decide +kernel
theorem dX13_sortedShare_37 : decode cX13_sortedShare 37 = .ok (.iinc 2 1, 3) := by decide +kernel
theorem dX13_sortedShare_40 : decode cX13_sortedShare 40 = .ok (.goto (-31), 3) := by decide +kernel
theorem dX13_sortedShare_43 : decode cX13_sortedShare 43 = .ok (.iload_n 1, 1) := by decide +kernel
theorem dX13_sortedShare_44 : decode cX13_sortedShare 44 = .ok (.i2f, 1) := by decide +kernel
theorem dX13_sortedShare_45 : decode cX13_sortedShare 45 = .ok (.ldc_w 350, 3) := by decide +kernel
theorem dX13_sortedShare_48 : decode cX13_sortedShare 48 = .ok (.fdiv, 1) := by decide +kernel
theorem dX13_sortedShare_49 : decode cX13_sortedShare 49 = .ok (.freturn, 1) := by decide +kernel
set_option maxHeartbeats 4000000 in
set_option maxRecDepth 100000 in
theorem c_X13_sortedShare (l : Launch) (dC : Nat → ClassId) (dI : Nat → Nat → Nat) (g : Nat → ClassId) (b : Nat → Nat) (r1 : Nat → Nat) (r2 : Nat → Nat) (th : Int32) (sz : Nat) : Met l yX13_sortedShare wsX13_sortedShare ({ frames := 1, cells := 0, slots := 0, locals := 23 }) (va_Pc [.ref (b 0)] (PG (dC, dI) g (modW b r1 r2 g th) sz)) (va_Qf (fun (r : UInt32) (_ : Unit) => (cd true true true) = 0 → r = FP.fdiv (FP.i2f 8) 1090519040) (fun (_ : Unit) t => ∃ fs : List Value, va_P (dC, dI) vwCl [(b 0, .inr (15, .int (cd true true true) :: fs))] t.heap) (va_A (modW b r1 r2 g th) sz)) 0 0 (va_A (modW b r1 r2 g th) sz) := by
  refine Met.ofW (cc := cX13_sortedShare) (maxL := 3) (ret := (some .float)) (by decide) rfl ?_
  intro p e s m args below meth c s₁ B hml hv
  obtain ⟨rfl, hsz, hP, hK, hD0, hG⟩ := hv
  have hx := B.exec
  have hb := B.bytes
  have hr := B.returns
  have hts := atoms_spec (ws := wsX13_sortedShare) B.pre
  have hown : s.vm.findClass RX13 = some m.cls := findClass_of_methodNamed B.named
  have hlocks := B.notSynchronized
  subst hsz
  have hD := hD0.self (sz := s.heap.size)
  generalize hAe : va_A (modW b r1 r2 g th) s.heap.size = A at hD hG ⊢
  have hA : ∀ q : Nat, s.heap.size ≤ q → A q := fun q h => by rw [← hAe]; exact Or.inr h
  have hS : va_S A s.heap s.heap [] := va_S.rf
  have hl := lv_entry ([.ref (b 0)]) (n := 3) (Nat.le_of_ble_eq_true rfl)
  rw [lg_entry_eq]
  generalize (lg_sl ([.ref (b 0)]) ++ List.replicate (3 - (lg_sl ([.ref (b 0)])).length) Slot.unset).toArray = ls at hl ⊢
  have hl : lv_has ls 3 [(0, .ref (b 0))] := hl
  have hf1 := hts (Cond.fieldLink RX13 1 "RunmergeOfficeModel" "thrown" "I") (by decide +kernel)
  have hiX13 : ∀ w ∈ u_ws RX13 TX13 14, w ∈ wsX13_sortedShare := by decide +kernel
  have hf29 := hts (Cond.fieldLink RX13 29 "RunmergeOfficeModel" "tapes" "[[I") (by decide +kernel)
  have hk350 := hts (Jvm.Cond.constantFloat RX13 350 1090519040) (by decide +kernel)
  refine lv_aload_n hx hb dX13_sortedShare_0 rfl (lv_at hl 0 rfl) ?_
  refine lv_iconst (v := 0) hx hb dX13_sortedShare_1 (by decide) ?_
  refine va_put (D := (dC, dI)) (ci := 15) (v := .int 0) (ty := .int) (C := RX13) (T := TX13) (N := 14) hx hb hts hiX13 tyX13 tyX13_ok nmX13 hown hK hP hD hS 0 (m_0 b r1 r2 g th) rfl 0 (by decide) hf1 (fun _ h9 => h9) rfl (by decide +kernel) rfl rfl (Nat.le_of_ble_eq_true rfl) dX13_sortedShare_2 (fun H_1 L_2 hP hD hS => ?_)
  have hP : va_P (dC, dI) vwCl (modW b r1 r2 g 0) H_1 := hP
  have hD : va_D A (modW b r1 r2 g 0) := hD
  refine lv_iconst (v := 0) hx hb dX13_sortedShare_5 (by decide) ?_
  refine lv_istore_n (lv' := [(1, .int 0), (0, .ref (b 0))]) hx hb dX13_sortedShare_6 rfl hl (by decide) rfl (fun ls hl => ?_)
  refine lv_iconst (v := 0) hx hb dX13_sortedShare_7 (by decide) ?_
  refine lv_istore_n (lv' := [(2, .int 0), (1, .int 0), (0, .ref (b 0))]) hx hb dX13_sortedShare_8 rfl hl (by decide) rfl (fun ls hl => ?_)
  refine lv_iload_n hx hb dX13_sortedShare_9 rfl (lv_at hl 0 rfl) ?_
  refine lv_bipush (v := 8) hx hb dX13_sortedShare_10 (by decide) ?_
  refine lv_icmp_ge (tgt := 43) hx hb dX13_sortedShare_12 (by decide) (fun c_3 => absurd c_3 (by decide)) (fun c_3 => ?_)
  refine lv_iload_n hx hb dX13_sortedShare_15 rfl (lv_at hl 1 rfl) ?_
  refine lv_aload_n hx hb dX13_sortedShare_16 rfl (lv_at hl 2 rfl) ?_
  refine lv_aload_n hx hb dX13_sortedShare_17 rfl (lv_at hl 2 rfl) ?_
  refine va_get (D := (dC, dI)) (ci := 15) (v := .ref (b 3)) (C := RX13) (T := TX13) (N := 14) hx hb hts hiX13 hown hK hP 0 (m_0 b r1 r2 g 0) rfl 4 (by decide) hf29 (fun _ h9 => h9) rfl dX13_sortedShare_18 ?_
  refine lv_iload_n hx hb dX13_sortedShare_21 rfl (lv_at hl 0 rfl) ?_
  refine va_aldA hx hb hK hP 3 (m_3 b r1 r2 g 0) (by unfold vp_in; decide) dX13_sortedShare_22 ?_
  refine W.eq (g2 := F0 m 23 ls [.ref (r1 0), .ref (b 0), .int 0]) (rfl) ?_
  refine lv_iconst (v := 0) hx hb dX13_sortedShare_23 (by decide) ?_
  refine va_calli (va_runV (As := [.ref (r1 0), .int 0]) (rest := [.int 0]) ⟨hx, hb, hml, hown, hts⟩ (c_X13_isInOrder l dC dI g (modW b r1 r2 g 0) (b 0) (r1 0) 0 (fun _ => 0) 7 (m_7 b r1 r2 g 0)  H_1.size) (cwV 2 hts gX13_sortedShare_X13_isInOrder rfl rfl rfl (by decide +kernel) ⟨Nat.le_of_ble_eq_true rfl, Nat.le_of_ble_eq_true rfl⟩) ⟨PG_blind, va_recv hK hP (ci := 15) (q0 := 0) rfl (m_0 b r1 r2 g 0), PG_call hK hG hS hP hD (A_all hD hA hS.1)⟩ rfl rfl hl.1 rfl (lv_room (Nat.le_of_ble_eq_true rfl)) dX13_sortedShare_24 ⟨Nat.le_of_ble_eq_true rfl, Nat.le_of_ble_eq_true rfl⟩) hS (fun q _ h => (A_all hD hA hS.1) q h) (A_all hD hA hS.1) (fun r_4 u_4 t_4 H_4 L_4 ht_4 hvm_4 hw_4 hB_4 hz_4 hk_4 hS => ?_)
  replace hB_4 := (show va_P (dC, dI) vwCl (modW b r1 r2 g 0) t_4.heap from hB_4)
  rw [ht_4] at hB_4
  have hP := hB_4
  obtain rfl : r_4 = 1 := hw_4
  refine lv_if_eq (tgt := 34) hx hb dX13_sortedShare_27 (by decide) (fun c_5 => absurd c_5 (by decide)) (fun c_5 => ?_)
  refine lv_iconst (v := 1) hx hb dX13_sortedShare_30 (by decide) ?_
  refine lv_goto (tgt := 35) hx hb dX13_sortedShare_31 (by decide) ?_
  refine lv_iadd hx hb dX13_sortedShare_35 ?_
  refine lv_topi (fun x_6 ex_6 => ?_)
  obtain rfl : x_6 = 1 := ex_6.trans (by decide)
  refine lv_istore_n (lv' := [(1, .int 1), (2, .int 0), (0, .ref (b 0))]) hx hb dX13_sortedShare_36 rfl hl (by decide) rfl (fun ls hl => ?_)
  refine lv_iinc (v := 1) (lv' := [(2, .int 1), (1, .int 1), (0, .ref (b 0))]) hx hb dX13_sortedShare_37 hl (k := 1) rfl (by decide) (by decide) rfl (fun ls hl => ?_)
  refine lv_goto (tgt := 9) hx hb dX13_sortedShare_40 (by decide) ?_
  refine lv_iload_n hx hb dX13_sortedShare_9 rfl (lv_at hl 0 rfl) ?_
  refine lv_bipush (v := 8) hx hb dX13_sortedShare_10 (by decide) ?_
  refine lv_icmp_ge (tgt := 43) hx hb dX13_sortedShare_12 (by decide) (fun c_7 => absurd c_7 (by decide)) (fun c_7 => ?_)
  refine lv_iload_n hx hb dX13_sortedShare_15 rfl (lv_at hl 1 rfl) ?_
  refine lv_aload_n hx hb dX13_sortedShare_16 rfl (lv_at hl 2 rfl) ?_
  refine lv_aload_n hx hb dX13_sortedShare_17 rfl (lv_at hl 2 rfl) ?_
  refine va_get (D := (dC, dI)) (ci := 15) (v := .ref (b 3)) (C := RX13) (T := TX13) (N := 14) hx hb hts hiX13 hown hK hP 0 (m_0 b r1 r2 g 0) rfl 4 (by decide) hf29 (fun _ h9 => h9) rfl dX13_sortedShare_18 ?_
  refine lv_iload_n hx hb dX13_sortedShare_21 rfl (lv_at hl 0 rfl) ?_
  refine va_aldA hx hb hK hP 3 (m_3 b r1 r2 g 0) (by unfold vp_in; decide) dX13_sortedShare_22 ?_
  refine W.eq (g2 := F0 m 23 ls [.ref (r1 1), .ref (b 0), .int 1]) (rfl) ?_
  refine lv_iconst (v := 0) hx hb dX13_sortedShare_23 (by decide) ?_
  refine va_calli (va_runV (As := [.ref (r1 1), .int 0]) (rest := [.int 1]) ⟨hx, hb, hml, hown, hts⟩ (c_X13_isInOrder l dC dI g (modW b r1 r2 g 0) (b 0) (r1 1) 0 (fun _ => 0) 8 (m_8 b r1 r2 g 0)  H_4.size) (cwV 2 hts gX13_sortedShare_X13_isInOrder rfl rfl rfl (by decide +kernel) ⟨Nat.le_of_ble_eq_true rfl, Nat.le_of_ble_eq_true rfl⟩) ⟨PG_blind, va_recv hK hP (ci := 15) (q0 := 0) rfl (m_0 b r1 r2 g 0), PG_call hK hG hS hP hD (A_all hD hA hS.1)⟩ rfl rfl hl.1 rfl (lv_room (Nat.le_of_ble_eq_true rfl)) dX13_sortedShare_24 ⟨Nat.le_of_ble_eq_true rfl, Nat.le_of_ble_eq_true rfl⟩) hS (fun q _ h => (A_all hD hA hS.1) q h) (A_all hD hA hS.1) (fun r_8 u_8 t_8 H_8 L_8 ht_8 hvm_8 hw_8 hB_8 hz_8 hk_8 hS => ?_)
  replace hB_8 := (show va_P (dC, dI) vwCl (modW b r1 r2 g 0) t_8.heap from hB_8)
  rw [ht_8] at hB_8
  have hP := hB_8
  obtain rfl : r_8 = 1 := hw_8
  refine lv_if_eq (tgt := 34) hx hb dX13_sortedShare_27 (by decide) (fun c_9 => absurd c_9 (by decide)) (fun c_9 => ?_)
  refine lv_iconst (v := 1) hx hb dX13_sortedShare_30 (by decide) ?_
  refine lv_goto (tgt := 35) hx hb dX13_sortedShare_31 (by decide) ?_
  refine lv_iadd hx hb dX13_sortedShare_35 ?_
  refine lv_topi (fun x_10 ex_10 => ?_)
  obtain rfl : x_10 = 2 := ex_10.trans (by decide)
  refine lv_istore_n (lv' := [(1, .int 2), (2, .int 1), (0, .ref (b 0))]) hx hb dX13_sortedShare_36 rfl hl (by decide) rfl (fun ls hl => ?_)
  refine lv_iinc (v := 2) (lv' := [(2, .int 2), (1, .int 2), (0, .ref (b 0))]) hx hb dX13_sortedShare_37 hl (k := 1) rfl (by decide) (by decide) rfl (fun ls hl => ?_)
  refine lv_goto (tgt := 9) hx hb dX13_sortedShare_40 (by decide) ?_
  refine lv_iload_n hx hb dX13_sortedShare_9 rfl (lv_at hl 0 rfl) ?_
  refine lv_bipush (v := 8) hx hb dX13_sortedShare_10 (by decide) ?_
  refine lv_icmp_ge (tgt := 43) hx hb dX13_sortedShare_12 (by decide) (fun c_11 => absurd c_11 (by decide)) (fun c_11 => ?_)
  refine lv_iload_n hx hb dX13_sortedShare_15 rfl (lv_at hl 1 rfl) ?_
  refine lv_aload_n hx hb dX13_sortedShare_16 rfl (lv_at hl 2 rfl) ?_
  refine lv_aload_n hx hb dX13_sortedShare_17 rfl (lv_at hl 2 rfl) ?_
  refine va_get (D := (dC, dI)) (ci := 15) (v := .ref (b 3)) (C := RX13) (T := TX13) (N := 14) hx hb hts hiX13 hown hK hP 0 (m_0 b r1 r2 g 0) rfl 4 (by decide) hf29 (fun _ h9 => h9) rfl dX13_sortedShare_18 ?_
  refine lv_iload_n hx hb dX13_sortedShare_21 rfl (lv_at hl 0 rfl) ?_
  refine va_aldA hx hb hK hP 3 (m_3 b r1 r2 g 0) (by unfold vp_in; decide) dX13_sortedShare_22 ?_
  refine W.eq (g2 := F0 m 23 ls [.ref (r1 2), .ref (b 0), .int 2]) (rfl) ?_
  refine lv_iconst (v := 0) hx hb dX13_sortedShare_23 (by decide) ?_
  refine va_calli (va_runV (As := [.ref (r1 2), .int 0]) (rest := [.int 2]) ⟨hx, hb, hml, hown, hts⟩ (c_X13_isInOrder l dC dI g (modW b r1 r2 g 0) (b 0) (r1 2) 0 (fun _ => 0) 9 (m_9 b r1 r2 g 0)  H_8.size) (cwV 2 hts gX13_sortedShare_X13_isInOrder rfl rfl rfl (by decide +kernel) ⟨Nat.le_of_ble_eq_true rfl, Nat.le_of_ble_eq_true rfl⟩) ⟨PG_blind, va_recv hK hP (ci := 15) (q0 := 0) rfl (m_0 b r1 r2 g 0), PG_call hK hG hS hP hD (A_all hD hA hS.1)⟩ rfl rfl hl.1 rfl (lv_room (Nat.le_of_ble_eq_true rfl)) dX13_sortedShare_24 ⟨Nat.le_of_ble_eq_true rfl, Nat.le_of_ble_eq_true rfl⟩) hS (fun q _ h => (A_all hD hA hS.1) q h) (A_all hD hA hS.1) (fun r_12 u_12 t_12 H_12 L_12 ht_12 hvm_12 hw_12 hB_12 hz_12 hk_12 hS => ?_)
  replace hB_12 := (show va_P (dC, dI) vwCl (modW b r1 r2 g 0) t_12.heap from hB_12)
  rw [ht_12] at hB_12
  have hP := hB_12
  obtain rfl : r_12 = 1 := hw_12
  refine lv_if_eq (tgt := 34) hx hb dX13_sortedShare_27 (by decide) (fun c_13 => absurd c_13 (by decide)) (fun c_13 => ?_)
  refine lv_iconst (v := 1) hx hb dX13_sortedShare_30 (by decide) ?_
  refine lv_goto (tgt := 35) hx hb dX13_sortedShare_31 (by decide) ?_
  refine lv_iadd hx hb dX13_sortedShare_35 ?_
  refine lv_topi (fun x_14 ex_14 => ?_)
  obtain rfl : x_14 = 3 := ex_14.trans (by decide)
  refine lv_istore_n (lv' := [(1, .int 3), (2, .int 2), (0, .ref (b 0))]) hx hb dX13_sortedShare_36 rfl hl (by decide) rfl (fun ls hl => ?_)
  refine lv_iinc (v := 3) (lv' := [(2, .int 3), (1, .int 3), (0, .ref (b 0))]) hx hb dX13_sortedShare_37 hl (k := 1) rfl (by decide) (by decide) rfl (fun ls hl => ?_)
  refine lv_goto (tgt := 9) hx hb dX13_sortedShare_40 (by decide) ?_
  refine lv_iload_n hx hb dX13_sortedShare_9 rfl (lv_at hl 0 rfl) ?_
  refine lv_bipush (v := 8) hx hb dX13_sortedShare_10 (by decide) ?_
  refine lv_icmp_ge (tgt := 43) hx hb dX13_sortedShare_12 (by decide) (fun c_15 => absurd c_15 (by decide)) (fun c_15 => ?_)
  refine lv_iload_n hx hb dX13_sortedShare_15 rfl (lv_at hl 1 rfl) ?_
  refine lv_aload_n hx hb dX13_sortedShare_16 rfl (lv_at hl 2 rfl) ?_
  refine lv_aload_n hx hb dX13_sortedShare_17 rfl (lv_at hl 2 rfl) ?_
  refine va_get (D := (dC, dI)) (ci := 15) (v := .ref (b 3)) (C := RX13) (T := TX13) (N := 14) hx hb hts hiX13 hown hK hP 0 (m_0 b r1 r2 g 0) rfl 4 (by decide) hf29 (fun _ h9 => h9) rfl dX13_sortedShare_18 ?_
  refine lv_iload_n hx hb dX13_sortedShare_21 rfl (lv_at hl 0 rfl) ?_
  refine va_aldA hx hb hK hP 3 (m_3 b r1 r2 g 0) (by unfold vp_in; decide) dX13_sortedShare_22 ?_
  refine W.eq (g2 := F0 m 23 ls [.ref (r1 3), .ref (b 0), .int 3]) (rfl) ?_
  refine lv_iconst (v := 0) hx hb dX13_sortedShare_23 (by decide) ?_
  refine va_calli (va_runV (As := [.ref (r1 3), .int 0]) (rest := [.int 3]) ⟨hx, hb, hml, hown, hts⟩ (c_X13_isInOrder l dC dI g (modW b r1 r2 g 0) (b 0) (r1 3) 0 (fun _ => 0) 10 (m_10 b r1 r2 g 0)  H_12.size) (cwV 2 hts gX13_sortedShare_X13_isInOrder rfl rfl rfl (by decide +kernel) ⟨Nat.le_of_ble_eq_true rfl, Nat.le_of_ble_eq_true rfl⟩) ⟨PG_blind, va_recv hK hP (ci := 15) (q0 := 0) rfl (m_0 b r1 r2 g 0), PG_call hK hG hS hP hD (A_all hD hA hS.1)⟩ rfl rfl hl.1 rfl (lv_room (Nat.le_of_ble_eq_true rfl)) dX13_sortedShare_24 ⟨Nat.le_of_ble_eq_true rfl, Nat.le_of_ble_eq_true rfl⟩) hS (fun q _ h => (A_all hD hA hS.1) q h) (A_all hD hA hS.1) (fun r_16 u_16 t_16 H_16 L_16 ht_16 hvm_16 hw_16 hB_16 hz_16 hk_16 hS => ?_)
  replace hB_16 := (show va_P (dC, dI) vwCl (modW b r1 r2 g 0) t_16.heap from hB_16)
  rw [ht_16] at hB_16
  have hP := hB_16
  obtain rfl : r_16 = 1 := hw_16
  refine lv_if_eq (tgt := 34) hx hb dX13_sortedShare_27 (by decide) (fun c_17 => absurd c_17 (by decide)) (fun c_17 => ?_)
  refine lv_iconst (v := 1) hx hb dX13_sortedShare_30 (by decide) ?_
  refine lv_goto (tgt := 35) hx hb dX13_sortedShare_31 (by decide) ?_
  refine lv_iadd hx hb dX13_sortedShare_35 ?_
  refine lv_topi (fun x_18 ex_18 => ?_)
  obtain rfl : x_18 = 4 := ex_18.trans (by decide)
  refine lv_istore_n (lv' := [(1, .int 4), (2, .int 3), (0, .ref (b 0))]) hx hb dX13_sortedShare_36 rfl hl (by decide) rfl (fun ls hl => ?_)
  refine lv_iinc (v := 4) (lv' := [(2, .int 4), (1, .int 4), (0, .ref (b 0))]) hx hb dX13_sortedShare_37 hl (k := 1) rfl (by decide) (by decide) rfl (fun ls hl => ?_)
  refine lv_goto (tgt := 9) hx hb dX13_sortedShare_40 (by decide) ?_
  refine lv_iload_n hx hb dX13_sortedShare_9 rfl (lv_at hl 0 rfl) ?_
  refine lv_bipush (v := 8) hx hb dX13_sortedShare_10 (by decide) ?_
  refine lv_icmp_ge (tgt := 43) hx hb dX13_sortedShare_12 (by decide) (fun c_19 => absurd c_19 (by decide)) (fun c_19 => ?_)
  refine lv_iload_n hx hb dX13_sortedShare_15 rfl (lv_at hl 1 rfl) ?_
  refine lv_aload_n hx hb dX13_sortedShare_16 rfl (lv_at hl 2 rfl) ?_
  refine lv_aload_n hx hb dX13_sortedShare_17 rfl (lv_at hl 2 rfl) ?_
  refine va_get (D := (dC, dI)) (ci := 15) (v := .ref (b 3)) (C := RX13) (T := TX13) (N := 14) hx hb hts hiX13 hown hK hP 0 (m_0 b r1 r2 g 0) rfl 4 (by decide) hf29 (fun _ h9 => h9) rfl dX13_sortedShare_18 ?_
  refine lv_iload_n hx hb dX13_sortedShare_21 rfl (lv_at hl 0 rfl) ?_
  refine va_aldA hx hb hK hP 3 (m_3 b r1 r2 g 0) (by unfold vp_in; decide) dX13_sortedShare_22 ?_
  refine W.eq (g2 := F0 m 23 ls [.ref (r1 4), .ref (b 0), .int 4]) (rfl) ?_
  refine lv_iconst (v := 0) hx hb dX13_sortedShare_23 (by decide) ?_
  refine va_calli (va_runV (As := [.ref (r1 4), .int 0]) (rest := [.int 4]) ⟨hx, hb, hml, hown, hts⟩ (c_X13_isInOrder l dC dI g (modW b r1 r2 g 0) (b 0) (r1 4) 0 (fun _ => 0) 11 (m_11 b r1 r2 g 0)  H_16.size) (cwV 2 hts gX13_sortedShare_X13_isInOrder rfl rfl rfl (by decide +kernel) ⟨Nat.le_of_ble_eq_true rfl, Nat.le_of_ble_eq_true rfl⟩) ⟨PG_blind, va_recv hK hP (ci := 15) (q0 := 0) rfl (m_0 b r1 r2 g 0), PG_call hK hG hS hP hD (A_all hD hA hS.1)⟩ rfl rfl hl.1 rfl (lv_room (Nat.le_of_ble_eq_true rfl)) dX13_sortedShare_24 ⟨Nat.le_of_ble_eq_true rfl, Nat.le_of_ble_eq_true rfl⟩) hS (fun q _ h => (A_all hD hA hS.1) q h) (A_all hD hA hS.1) (fun r_20 u_20 t_20 H_20 L_20 ht_20 hvm_20 hw_20 hB_20 hz_20 hk_20 hS => ?_)
  replace hB_20 := (show va_P (dC, dI) vwCl (modW b r1 r2 g 0) t_20.heap from hB_20)
  rw [ht_20] at hB_20
  have hP := hB_20
  obtain rfl : r_20 = 1 := hw_20
  refine lv_if_eq (tgt := 34) hx hb dX13_sortedShare_27 (by decide) (fun c_21 => absurd c_21 (by decide)) (fun c_21 => ?_)
  refine lv_iconst (v := 1) hx hb dX13_sortedShare_30 (by decide) ?_
  refine lv_goto (tgt := 35) hx hb dX13_sortedShare_31 (by decide) ?_
  refine lv_iadd hx hb dX13_sortedShare_35 ?_
  refine lv_topi (fun x_22 ex_22 => ?_)
  obtain rfl : x_22 = 5 := ex_22.trans (by decide)
  refine lv_istore_n (lv' := [(1, .int 5), (2, .int 4), (0, .ref (b 0))]) hx hb dX13_sortedShare_36 rfl hl (by decide) rfl (fun ls hl => ?_)
  refine lv_iinc (v := 5) (lv' := [(2, .int 5), (1, .int 5), (0, .ref (b 0))]) hx hb dX13_sortedShare_37 hl (k := 1) rfl (by decide) (by decide) rfl (fun ls hl => ?_)
  refine lv_goto (tgt := 9) hx hb dX13_sortedShare_40 (by decide) ?_
  refine lv_iload_n hx hb dX13_sortedShare_9 rfl (lv_at hl 0 rfl) ?_
  refine lv_bipush (v := 8) hx hb dX13_sortedShare_10 (by decide) ?_
  refine lv_icmp_ge (tgt := 43) hx hb dX13_sortedShare_12 (by decide) (fun c_23 => absurd c_23 (by decide)) (fun c_23 => ?_)
  refine lv_iload_n hx hb dX13_sortedShare_15 rfl (lv_at hl 1 rfl) ?_
  refine lv_aload_n hx hb dX13_sortedShare_16 rfl (lv_at hl 2 rfl) ?_
  refine lv_aload_n hx hb dX13_sortedShare_17 rfl (lv_at hl 2 rfl) ?_
  refine va_get (D := (dC, dI)) (ci := 15) (v := .ref (b 3)) (C := RX13) (T := TX13) (N := 14) hx hb hts hiX13 hown hK hP 0 (m_0 b r1 r2 g 0) rfl 4 (by decide) hf29 (fun _ h9 => h9) rfl dX13_sortedShare_18 ?_
  refine lv_iload_n hx hb dX13_sortedShare_21 rfl (lv_at hl 0 rfl) ?_
  refine va_aldA hx hb hK hP 3 (m_3 b r1 r2 g 0) (by unfold vp_in; decide) dX13_sortedShare_22 ?_
  refine W.eq (g2 := F0 m 23 ls [.ref (r1 5), .ref (b 0), .int 5]) (rfl) ?_
  refine lv_iconst (v := 0) hx hb dX13_sortedShare_23 (by decide) ?_
  refine va_calli (va_runV (As := [.ref (r1 5), .int 0]) (rest := [.int 5]) ⟨hx, hb, hml, hown, hts⟩ (c_X13_isInOrder l dC dI g (modW b r1 r2 g 0) (b 0) (r1 5) 0 (fun _ => 0) 12 (m_12 b r1 r2 g 0)  H_20.size) (cwV 2 hts gX13_sortedShare_X13_isInOrder rfl rfl rfl (by decide +kernel) ⟨Nat.le_of_ble_eq_true rfl, Nat.le_of_ble_eq_true rfl⟩) ⟨PG_blind, va_recv hK hP (ci := 15) (q0 := 0) rfl (m_0 b r1 r2 g 0), PG_call hK hG hS hP hD (A_all hD hA hS.1)⟩ rfl rfl hl.1 rfl (lv_room (Nat.le_of_ble_eq_true rfl)) dX13_sortedShare_24 ⟨Nat.le_of_ble_eq_true rfl, Nat.le_of_ble_eq_true rfl⟩) hS (fun q _ h => (A_all hD hA hS.1) q h) (A_all hD hA hS.1) (fun r_24 u_24 t_24 H_24 L_24 ht_24 hvm_24 hw_24 hB_24 hz_24 hk_24 hS => ?_)
  replace hB_24 := (show va_P (dC, dI) vwCl (modW b r1 r2 g 0) t_24.heap from hB_24)
  rw [ht_24] at hB_24
  have hP := hB_24
  obtain rfl : r_24 = 1 := hw_24
  refine lv_if_eq (tgt := 34) hx hb dX13_sortedShare_27 (by decide) (fun c_25 => absurd c_25 (by decide)) (fun c_25 => ?_)
  refine lv_iconst (v := 1) hx hb dX13_sortedShare_30 (by decide) ?_
  refine lv_goto (tgt := 35) hx hb dX13_sortedShare_31 (by decide) ?_
  refine lv_iadd hx hb dX13_sortedShare_35 ?_
  refine lv_topi (fun x_26 ex_26 => ?_)
  obtain rfl : x_26 = 6 := ex_26.trans (by decide)
  refine lv_istore_n (lv' := [(1, .int 6), (2, .int 5), (0, .ref (b 0))]) hx hb dX13_sortedShare_36 rfl hl (by decide) rfl (fun ls hl => ?_)
  refine lv_iinc (v := 6) (lv' := [(2, .int 6), (1, .int 6), (0, .ref (b 0))]) hx hb dX13_sortedShare_37 hl (k := 1) rfl (by decide) (by decide) rfl (fun ls hl => ?_)
  refine lv_goto (tgt := 9) hx hb dX13_sortedShare_40 (by decide) ?_
  refine lv_iload_n hx hb dX13_sortedShare_9 rfl (lv_at hl 0 rfl) ?_
  refine lv_bipush (v := 8) hx hb dX13_sortedShare_10 (by decide) ?_
  refine lv_icmp_ge (tgt := 43) hx hb dX13_sortedShare_12 (by decide) (fun c_27 => absurd c_27 (by decide)) (fun c_27 => ?_)
  refine lv_iload_n hx hb dX13_sortedShare_15 rfl (lv_at hl 1 rfl) ?_
  refine lv_aload_n hx hb dX13_sortedShare_16 rfl (lv_at hl 2 rfl) ?_
  refine lv_aload_n hx hb dX13_sortedShare_17 rfl (lv_at hl 2 rfl) ?_
  refine va_get (D := (dC, dI)) (ci := 15) (v := .ref (b 3)) (C := RX13) (T := TX13) (N := 14) hx hb hts hiX13 hown hK hP 0 (m_0 b r1 r2 g 0) rfl 4 (by decide) hf29 (fun _ h9 => h9) rfl dX13_sortedShare_18 ?_
  refine lv_iload_n hx hb dX13_sortedShare_21 rfl (lv_at hl 0 rfl) ?_
  refine va_aldA hx hb hK hP 3 (m_3 b r1 r2 g 0) (by unfold vp_in; decide) dX13_sortedShare_22 ?_
  refine W.eq (g2 := F0 m 23 ls [.ref (r1 6), .ref (b 0), .int 6]) (rfl) ?_
  refine lv_iconst (v := 0) hx hb dX13_sortedShare_23 (by decide) ?_
  refine va_calli (va_runV (As := [.ref (r1 6), .int 0]) (rest := [.int 6]) ⟨hx, hb, hml, hown, hts⟩ (c_X13_isInOrder l dC dI g (modW b r1 r2 g 0) (b 0) (r1 6) 0 (fun _ => 0) 13 (m_13 b r1 r2 g 0)  H_24.size) (cwV 2 hts gX13_sortedShare_X13_isInOrder rfl rfl rfl (by decide +kernel) ⟨Nat.le_of_ble_eq_true rfl, Nat.le_of_ble_eq_true rfl⟩) ⟨PG_blind, va_recv hK hP (ci := 15) (q0 := 0) rfl (m_0 b r1 r2 g 0), PG_call hK hG hS hP hD (A_all hD hA hS.1)⟩ rfl rfl hl.1 rfl (lv_room (Nat.le_of_ble_eq_true rfl)) dX13_sortedShare_24 ⟨Nat.le_of_ble_eq_true rfl, Nat.le_of_ble_eq_true rfl⟩) hS (fun q _ h => (A_all hD hA hS.1) q h) (A_all hD hA hS.1) (fun r_28 u_28 t_28 H_28 L_28 ht_28 hvm_28 hw_28 hB_28 hz_28 hk_28 hS => ?_)
  replace hB_28 := (show va_P (dC, dI) vwCl (modW b r1 r2 g 0) t_28.heap from hB_28)
  rw [ht_28] at hB_28
  have hP := hB_28
  obtain rfl : r_28 = 1 := hw_28
  refine lv_if_eq (tgt := 34) hx hb dX13_sortedShare_27 (by decide) (fun c_29 => absurd c_29 (by decide)) (fun c_29 => ?_)
  refine lv_iconst (v := 1) hx hb dX13_sortedShare_30 (by decide) ?_
  refine lv_goto (tgt := 35) hx hb dX13_sortedShare_31 (by decide) ?_
  refine lv_iadd hx hb dX13_sortedShare_35 ?_
  refine lv_topi (fun x_30 ex_30 => ?_)
  obtain rfl : x_30 = 7 := ex_30.trans (by decide)
  refine lv_istore_n (lv' := [(1, .int 7), (2, .int 6), (0, .ref (b 0))]) hx hb dX13_sortedShare_36 rfl hl (by decide) rfl (fun ls hl => ?_)
  refine lv_iinc (v := 7) (lv' := [(2, .int 7), (1, .int 7), (0, .ref (b 0))]) hx hb dX13_sortedShare_37 hl (k := 1) rfl (by decide) (by decide) rfl (fun ls hl => ?_)
  refine lv_goto (tgt := 9) hx hb dX13_sortedShare_40 (by decide) ?_
  refine lv_iload_n hx hb dX13_sortedShare_9 rfl (lv_at hl 0 rfl) ?_
  refine lv_bipush (v := 8) hx hb dX13_sortedShare_10 (by decide) ?_
  refine lv_icmp_ge (tgt := 43) hx hb dX13_sortedShare_12 (by decide) (fun c_31 => absurd c_31 (by decide)) (fun c_31 => ?_)
  refine lv_iload_n hx hb dX13_sortedShare_15 rfl (lv_at hl 1 rfl) ?_
  refine lv_aload_n hx hb dX13_sortedShare_16 rfl (lv_at hl 2 rfl) ?_
  refine lv_aload_n hx hb dX13_sortedShare_17 rfl (lv_at hl 2 rfl) ?_
  refine va_get (D := (dC, dI)) (ci := 15) (v := .ref (b 3)) (C := RX13) (T := TX13) (N := 14) hx hb hts hiX13 hown hK hP 0 (m_0 b r1 r2 g 0) rfl 4 (by decide) hf29 (fun _ h9 => h9) rfl dX13_sortedShare_18 ?_
  refine lv_iload_n hx hb dX13_sortedShare_21 rfl (lv_at hl 0 rfl) ?_
  refine va_aldA hx hb hK hP 3 (m_3 b r1 r2 g 0) (by unfold vp_in; decide) dX13_sortedShare_22 ?_
  refine W.eq (g2 := F0 m 23 ls [.ref (r1 7), .ref (b 0), .int 7]) (rfl) ?_
  refine lv_iconst (v := 0) hx hb dX13_sortedShare_23 (by decide) ?_
  refine va_calli (va_runV (As := [.ref (r1 7), .int 0]) (rest := [.int 7]) ⟨hx, hb, hml, hown, hts⟩ (c_X13_isInOrder l dC dI g (modW b r1 r2 g 0) (b 0) (r1 7) 0 (fun _ => 0) 14 (m_14 b r1 r2 g 0)  H_28.size) (cwV 2 hts gX13_sortedShare_X13_isInOrder rfl rfl rfl (by decide +kernel) ⟨Nat.le_of_ble_eq_true rfl, Nat.le_of_ble_eq_true rfl⟩) ⟨PG_blind, va_recv hK hP (ci := 15) (q0 := 0) rfl (m_0 b r1 r2 g 0), PG_call hK hG hS hP hD (A_all hD hA hS.1)⟩ rfl rfl hl.1 rfl (lv_room (Nat.le_of_ble_eq_true rfl)) dX13_sortedShare_24 ⟨Nat.le_of_ble_eq_true rfl, Nat.le_of_ble_eq_true rfl⟩) hS (fun q _ h => (A_all hD hA hS.1) q h) (A_all hD hA hS.1) (fun r_32 u_32 t_32 H_32 L_32 ht_32 hvm_32 hw_32 hB_32 hz_32 hk_32 hS => ?_)
  replace hB_32 := (show va_P (dC, dI) vwCl (modW b r1 r2 g 0) t_32.heap from hB_32)
  rw [ht_32] at hB_32
  have hP := hB_32
  obtain rfl : r_32 = 1 := hw_32
  refine lv_if_eq (tgt := 34) hx hb dX13_sortedShare_27 (by decide) (fun c_33 => absurd c_33 (by decide)) (fun c_33 => ?_)
  refine lv_iconst (v := 1) hx hb dX13_sortedShare_30 (by decide) ?_
  refine lv_goto (tgt := 35) hx hb dX13_sortedShare_31 (by decide) ?_
  refine lv_iadd hx hb dX13_sortedShare_35 ?_
  refine lv_topi (fun x_34 ex_34 => ?_)
  obtain rfl : x_34 = 8 := ex_34.trans (by decide)
  refine lv_istore_n (lv' := [(1, .int 8), (2, .int 7), (0, .ref (b 0))]) hx hb dX13_sortedShare_36 rfl hl (by decide) rfl (fun ls hl => ?_)
  refine lv_iinc (v := 8) (lv' := [(2, .int 8), (1, .int 8), (0, .ref (b 0))]) hx hb dX13_sortedShare_37 hl (k := 1) rfl (by decide) (by decide) rfl (fun ls hl => ?_)
  refine lv_goto (tgt := 9) hx hb dX13_sortedShare_40 (by decide) ?_
  refine lv_iload_n hx hb dX13_sortedShare_9 rfl (lv_at hl 0 rfl) ?_
  refine lv_bipush (v := 8) hx hb dX13_sortedShare_10 (by decide) ?_
  refine lv_icmp_ge (tgt := 43) hx hb dX13_sortedShare_12 (by decide) (fun c_35 => ?_) (fun c_35 => absurd (by decide) c_35)
  refine lv_iload_n hx hb dX13_sortedShare_43 rfl (lv_at hl 1 rfl) ?_
  refine lv_i2f hx hb dX13_sortedShare_44 ?_
  refine lv_ldcfw hx hb hown hk350 dX13_sortedShare_45 ?_
  refine lv_fdiv hx hb dX13_sortedShare_48 (by unfold vf_n32; decide +kernel) ?_
  have hcd : 0 = (cd true true true) := by simp [cd]
  have hP8 := hP.sub (ws' := [((b 0), .inr (15, [.int 0, .ref (b 1), .ref (b 2), .int 0, .ref (b 3), .ref (b 4), .ref (b 5), .null, .ref (b 6), .int 0, .int 0, .int 0, .int 0, .int 0]))]) [0] rfl
  rw [hcd] at hP8
  exact W.fret (v := FP.fdiv (FP.i2f 8) 1090519040) hx hb hr (fun t ht hW => ⟨⟨FP.fdiv (FP.i2f 8) 1090519040, (), rfl, (fun h => by first | rfl | (exact absurd (cd_0.mp h) (by simp []))), ⟨[.ref (b 1), .ref (b 2), .int 0, .ref (b 3), .ref (b 4), .ref (b 5), .null, .ref (b 6), .int 0, .int 0, .int 0, .int 0, .int 0], P_at ht hP8⟩⟩, hS.F ht⟩) hS.2.2 dX13_sortedShare_49
