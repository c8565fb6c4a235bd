theorem dX7_init_0 : decode cX7_init 0 = .ok (.aload_n 0, 1) := by decide +kernel
theorem dX7_init_1 : decode cX7_init 1 = .ok (.invokespecial 3, 3) := by decide +kernel
theorem dX7_init_4 : decode cX7_init 4 = .ok (.aload_n 0, 1) := by decide +kernel
theorem dX7_init_5 : decode cX7_init 5 = .ok (.bipush 100, 2) := by decide +kernel
theorem dX7_init_7 : decode cX7_init 7 = .ok (.newarray .int, 2) := by decide +kernel
theorem dX7_init_9 : decode cX7_init 9 = .ok (.putfield 9, 3) := by decide +kernel
theorem dX7_init_12 : decode cX7_init 12 = .ok (.aload_n 0, 1) := by decide +kernel
theorem dX7_init_13 : decode cX7_init 13 = .ok (.sipush 200, 3) := by decide +kernel
theorem dX7_init_16 : decode cX7_init 16 = .ok (.newarray .int, 2) := by decide +kernel
theorem dX7_init_18 : decode cX7_init 18 = .ok (.putfield 15, 3) := by decide +kernel
theorem dX7_init_21 : decode cX7_init 21 = .ok (.aload_n 0, 1) := by decide +kernel
theorem dX7_init_22 : decode cX7_init 22 = .ok (.sipush 200, 3) := by decide +kernel
theorem dX7_init_25 : decode cX7_init 25 = .ok (.newarray .int, 2) := by decide +kernel
theorem dX7_init_27 : decode cX7_init 27 = .ok (.putfield 18, 3) := by decide +kernel
theorem dX7_init_30 : decode cX7_init 30 = .ok (.aload_n 0, 1) := by decide +kernel
theorem dX7_init_31 : decode cX7_init 31 = .ok (.iconst 0, 1) := by decide +kernel
theorem dX7_init_32 : decode cX7_init 32 = .ok (.putfield 21, 3) := by decide +kernel
theorem dX7_init_35 : decode cX7_init 35 = .ok (.aload_n 0, 1) := by decide +kernel
theorem dX7_init_36 : decode cX7_init 36 = .ok (.iconst 0, 1) := by decide +kernel
theorem dX7_init_37 : decode cX7_init 37 = .ok (.putfield 25, 3) := by decide +kernel
theorem dX7_init_40 : decode cX7_init 40 = .ok (.return_, 1) := by decide +kernel

set_option maxHeartbeats 8000000 in
set_option maxRecDepth 100000 in
theorem c_X7_init (l : Launch) (dC : Nat → ClassId) (dI : Nat → Nat → Nat) (g : Nat → ClassId) (a_this_ : Nat) (Q : Prop) (hw : wp_X7_init Q) (sz : Nat) : Met l yX7_init wqX7_init ({ frames := 1, cells := 3, slots := 500, locals := 12 }) (va_Pc [.ref a_this_] (PG (dC, dI) g [(a_this_, .inr (9, [.null, .null, .null, .int 0, .int 0]))] sz)) (va_Qv (fun (u : (Nat → Nat) × Unit) => Q) (fun (u : (Nat → Nat) × Unit) t9 => va_P (dC, dI) vwCl (sh_X7 a_this_ u.1 g) t9.heap ∧ va_D (va_A [(a_this_, .inr (9, [.null, .null, .null, .int 0, .int 0]))] sz) (sh_X7 a_this_ u.1 g)) (va_A [(a_this_, .inr (9, [.null, .null, .null, .int 0, .int 0]))] sz)) 3 500 (va_A [(a_this_, .inr (9, [.null, .null, .null, .int 0, .int 0]))] sz) := by
  refine Met.ofW (cc := cX7_init) (maxL := 1) (ret := none) (by decide) rfl ?_
  intro p e s m args below meth c s₁ B hml hv
  obtain ⟨rfl, hsz, hP, hK, hD0, hG⟩ := hv
  have hx := B.exec
  have hb := B.bytes
  have hr := B.returns
  have hts := atoms_spec (ws := wqX7_init) B.pre
  have hown : s.vm.findClass RX7 = some m.cls := findClass_of_methodNamed B.named
  have hlocks := B.notSynchronized
  subst hsz
  have hD := hD0.self (sz := s.heap.size)
  generalize hAe : va_A [(a_this_, .inr (9, [.null, .null, .null, .int 0, .int 0]))] s.heap.size = A at hD hG ⊢
  have hA : ∀ q : Nat, s.heap.size ≤ q → A q := fun q h => by rw [← hAe]; exact Or.inr h
  have hS : va_S A s.heap s.heap [] := va_S.rf
  have hrc : (headSpec wqX7_init ({ frames := 1, cells := 3, slots := 500, locals := 12 })).room.cells = 3 := rfl
  have hrs : (headSpec wqX7_init ({ frames := 1, cells := 3, slots := 500, locals := 12 })).room.slots = 500 := rfl
  have hin : meth.name = "<init>" := (name_of_methodNamed B.named B.method).1
  have hl := lv_entry ([.ref a_this_]) (n := 1) (Nat.le_of_ble_eq_true rfl)
  rw [lg_entry_eq]
  generalize (lg_sl ([.ref a_this_]) ++ List.replicate (1 - (lg_sl ([.ref a_this_])).length) Slot.unset).toArray = ls at hl ⊢
  have hl : lv_has ls 1 [(0, .ref a_this_)] := hl
  unfold wp_X7_init at hw
  have hml3 := hts (Cond.methodLink RX7 3 objectInit) (aw_l aw_1_139)
  have hoi := hts (Cond.instanceMethod objectInit) (aw_l aw_1_38)
  have hoc := hts (Cond.code objectInit ⟨#[0xb1]⟩ 1 none) (aw_l aw_1_39)
  have hnaint := hts (Cond.arrayClass .int) (aw_l aw_1_57)
  have hf9 := hts (Cond.fieldLink RX7 9 "RunmergeOffice$RunRow" "ranks" "[I") (aw_l aw_1_140)
  have hiX7 : ∀ w ∈ u_ws RX7 TX7 5, w ∈ wqX7_init := fun w h => aw_l (aw_wsX70 w h)
  have hf15 := hts (Cond.fieldLink RX7 15 "RunmergeOffice$RunRow" "starts" "[I") (aw_l aw_1_141)
  have hf18 := hts (Cond.fieldLink RX7 18 "RunmergeOffice$RunRow" "lengths" "[I") (aw_l aw_1_142)
  have hf21 := hts (Cond.fieldLink RX7 21 "RunmergeOffice$RunRow" "count" "I") (aw_l aw_1_144)
  have hf25 := hts (Cond.fieldLink RX7 25 "RunmergeOffice$RunRow" "filled" "I") (aw_l aw_1_150)
  refine lv_aload_n hx hb dX7_init_0 rfl (lv_at hl 0 rfl) ?_
  refine W.objInit hx hb hown hml3 hoi hoc rfl (by rw [hml]; exact hl.1) rfl dX7_init_1 (Nat.le_of_ble_eq_true rfl) (Nat.le_of_ble_eq_true rfl) ?_
  refine W.eq (g2 := F0 m 4 ls []) rfl ?_
  refine lv_aload_n hx hb dX7_init_4 rfl (lv_at hl 0 rfl) ?_
  refine lv_bipush (v := 100) hx hb dX7_init_5 (by decide) ?_
  refine va_newa (atype := .int) (a0 := (100, .inl (fun _ => 0))) hx hb hnaint rfl hK hP hD hS hA (fun _ => rfl) (by decide) (N' := 100) (by decide) (Nat.le_of_ble_eq_true rfl) (by rw [hrc]; omega) (by rw [hrs]; omega) dX7_init_7 (fun a_q_2 cA_4 H_3 hK9 hP hD hS => ?_)
  obtain rfl : g 0 = cA_4 := K_one hK9 0 5 rfl rfl
  obtain ⟨hP, hD⟩ := seg_join [[(a_this_, .inr (9, [.null, .null, .null, .int 0, .int 0]))]] [[(a_q_2, .inl (g 0, 100, .inl (fun _ => 0)))]] [[(a_this_, .inr (9, [.null, .null, .null, .int 0, .int 0]))], [(a_q_2, .inl (g 0, 100, .inl (fun _ => 0)))]] 2 [0, 1] rfl rfl (by decide) hP hD
  have hP : va_P (dC, dI) vwCl [(a_this_, .inr (9, [.null, .null, .null, .int 0, .int 0])), (a_q_2, .inl (g 0, 100, .inl (fun _ => 0)))] H_3 := hP
  have hD : va_D A [(a_this_, .inr (9, [.null, .null, .null, .int 0, .int 0])), (a_q_2, .inl (g 0, 100, .inl (fun _ => 0)))] := hD
  refine W.widen (k := 1) (n := 100) (by omega) (by omega) ?_
  refine va_putF (D := (dC, dI)) (ci := 9) (v := .ref a_q_2) (ty := .array .int) (C := RX7) (T := TX7) (N := 5) hx hb hts hiX7 tyX7 tyX7_ok nmX7 hown hK hP hD hS 0 rfl rfl 0 (by decide) hf9 (fun _ h9 => h9) rfl hin rfl (by decide +kernel) rfl rfl (Nat.le_of_ble_eq_true rfl) dX7_init_9 (fun H_5 L_6 hP hD hS => ?_)
  have hP : va_P (dC, dI) vwCl [(a_this_, .inr (9, [.ref a_q_2, .null, .null, .int 0, .int 0])), (a_q_2, .inl (g 0, 100, .inl (fun _ => 0)))] H_5 := hP
  have hD : va_D A [(a_this_, .inr (9, [.ref a_q_2, .null, .null, .int 0, .int 0])), (a_q_2, .inl (g 0, 100, .inl (fun _ => 0)))] := hD
  refine lv_aload_n hx hb dX7_init_12 rfl (lv_at hl 0 rfl) ?_
  refine lv_sipush (v := 200) hx hb dX7_init_13 (by decide) ?_
  refine va_newa (atype := .int) (a0 := (200, .inl (fun _ => 0))) hx hb hnaint rfl hK hP hD hS hA (fun _ => rfl) (by decide) (N' := 200) (by decide) (Nat.le_of_ble_eq_true rfl) (by rw [hrc]; omega) (by rw [hrs]; omega) dX7_init_16 (fun a_q_7 cA_9 H_8 hK9 hP hD hS => ?_)
  obtain rfl : g 0 = cA_9 := K_one hK9 0 5 rfl rfl
  obtain ⟨hP, hD⟩ := seg_join [[(a_this_, .inr (9, [.ref a_q_2, .null, .null, .int 0, .int 0]))], [(a_q_2, .inl (g 0, 100, .inl (fun _ => 0)))]] [[(a_q_7, .inl (g 0, 200, .inl (fun _ => 0)))]] [[(a_this_, .inr (9, [.ref a_q_2, .null, .null, .int 0, .int 0]))], [(a_q_2, .inl (g 0, 100, .inl (fun _ => 0)))], [(a_q_7, .inl (g 0, 200, .inl (fun _ => 0)))]] 3 [0, 1, 2] rfl rfl (by decide) hP hD
  have hP : va_P (dC, dI) vwCl [(a_this_, .inr (9, [.ref a_q_2, .null, .null, .int 0, .int 0])), (a_q_2, .inl (g 0, 100, .inl (fun _ => 0))), (a_q_7, .inl (g 0, 200, .inl (fun _ => 0)))] H_8 := hP
  have hD : va_D A [(a_this_, .inr (9, [.ref a_q_2, .null, .null, .int 0, .int 0])), (a_q_2, .inl (g 0, 100, .inl (fun _ => 0))), (a_q_7, .inl (g 0, 200, .inl (fun _ => 0)))] := hD
  refine W.widen (k := 2) (n := 300) (by omega) (by omega) ?_
  refine va_putF (D := (dC, dI)) (ci := 9) (v := .ref a_q_7) (ty := .array .int) (C := RX7) (T := TX7) (N := 5) hx hb hts hiX7 tyX7 tyX7_ok nmX7 hown hK hP hD hS 0 rfl rfl 1 (by decide) hf15 (fun _ h9 => h9) rfl hin rfl (by decide +kernel) rfl rfl (Nat.le_of_ble_eq_true rfl) dX7_init_18 (fun H_10 L_11 hP hD hS => ?_)
  have hP : va_P (dC, dI) vwCl [(a_this_, .inr (9, [.ref a_q_2, .ref a_q_7, .null, .int 0, .int 0])), (a_q_2, .inl (g 0, 100, .inl (fun _ => 0))), (a_q_7, .inl (g 0, 200, .inl (fun _ => 0)))] H_10 := hP
  have hD : va_D A [(a_this_, .inr (9, [.ref a_q_2, .ref a_q_7, .null, .int 0, .int 0])), (a_q_2, .inl (g 0, 100, .inl (fun _ => 0))), (a_q_7, .inl (g 0, 200, .inl (fun _ => 0)))] := hD
  refine lv_aload_n hx hb dX7_init_21 rfl (lv_at hl 0 rfl) ?_
  refine lv_sipush (v := 200) hx hb dX7_init_22 (by decide) ?_
  refine va_newa (atype := .int) (a0 := (200, .inl (fun _ => 0))) hx hb hnaint rfl hK hP hD hS hA (fun _ => rfl) (by decide) (N' := 200) (by decide) (Nat.le_of_ble_eq_true rfl) (by rw [hrc]; omega) (by rw [hrs]; omega) dX7_init_25 (fun a_q_12 cA_14 H_13 hK9 hP hD hS => ?_)
  obtain rfl : g 0 = cA_14 := K_one hK9 0 5 rfl rfl
  obtain ⟨hP, hD⟩ := seg_join [[(a_this_, .inr (9, [.ref a_q_2, .ref a_q_7, .null, .int 0, .int 0]))], [(a_q_2, .inl (g 0, 100, .inl (fun _ => 0)))], [(a_q_7, .inl (g 0, 200, .inl (fun _ => 0)))]] [[(a_q_12, .inl (g 0, 200, .inl (fun _ => 0)))]] [[(a_this_, .inr (9, [.ref a_q_2, .ref a_q_7, .null, .int 0, .int 0]))], [(a_q_2, .inl (g 0, 100, .inl (fun _ => 0)))], [(a_q_7, .inl (g 0, 200, .inl (fun _ => 0)))], [(a_q_12, .inl (g 0, 200, .inl (fun _ => 0)))]] 4 [0, 1, 2, 3] rfl rfl (by decide) hP hD
  have hP : va_P (dC, dI) vwCl [(a_this_, .inr (9, [.ref a_q_2, .ref a_q_7, .null, .int 0, .int 0])), (a_q_2, .inl (g 0, 100, .inl (fun _ => 0))), (a_q_7, .inl (g 0, 200, .inl (fun _ => 0))), (a_q_12, .inl (g 0, 200, .inl (fun _ => 0)))] H_13 := hP
  have hD : va_D A [(a_this_, .inr (9, [.ref a_q_2, .ref a_q_7, .null, .int 0, .int 0])), (a_q_2, .inl (g 0, 100, .inl (fun _ => 0))), (a_q_7, .inl (g 0, 200, .inl (fun _ => 0))), (a_q_12, .inl (g 0, 200, .inl (fun _ => 0)))] := hD
  refine W.widen (k := 3) (n := 500) (by omega) (by omega) ?_
  refine va_putF (D := (dC, dI)) (ci := 9) (v := .ref a_q_12) (ty := .array .int) (C := RX7) (T := TX7) (N := 5) hx hb hts hiX7 tyX7 tyX7_ok nmX7 hown hK hP hD hS 0 rfl rfl 2 (by decide) hf18 (fun _ h9 => h9) rfl hin rfl (by decide +kernel) rfl rfl (Nat.le_of_ble_eq_true rfl) dX7_init_27 (fun H_15 L_16 hP hD hS => ?_)
  have hP : va_P (dC, dI) vwCl [(a_this_, .inr (9, [.ref a_q_2, .ref a_q_7, .ref a_q_12, .int 0, .int 0])), (a_q_2, .inl (g 0, 100, .inl (fun _ => 0))), (a_q_7, .inl (g 0, 200, .inl (fun _ => 0))), (a_q_12, .inl (g 0, 200, .inl (fun _ => 0)))] H_15 := hP
  have hD : va_D A [(a_this_, .inr (9, [.ref a_q_2, .ref a_q_7, .ref a_q_12, .int 0, .int 0])), (a_q_2, .inl (g 0, 100, .inl (fun _ => 0))), (a_q_7, .inl (g 0, 200, .inl (fun _ => 0))), (a_q_12, .inl (g 0, 200, .inl (fun _ => 0)))] := hD
  refine lv_aload_n hx hb dX7_init_30 rfl (lv_at hl 0 rfl) ?_
  refine lv_iconst (v := 0) hx hb dX7_init_31 (by decide) ?_
  refine va_put (D := (dC, dI)) (ci := 9) (v := .int 0) (ty := .int) (C := RX7) (T := TX7) (N := 5) hx hb hts hiX7 tyX7 tyX7_ok nmX7 hown hK hP hD hS 0 rfl rfl 3 (by decide) hf21 (fun _ h9 => h9) rfl (by decide +kernel) rfl rfl (Nat.le_of_ble_eq_true rfl) dX7_init_32 (fun H_17 L_18 hP hD hS => ?_)
  have hP : va_P (dC, dI) vwCl [(a_this_, .inr (9, [.ref a_q_2, .ref a_q_7, .ref a_q_12, .int 0, .int 0])), (a_q_2, .inl (g 0, 100, .inl (fun _ => 0))), (a_q_7, .inl (g 0, 200, .inl (fun _ => 0))), (a_q_12, .inl (g 0, 200, .inl (fun _ => 0)))] H_17 := hP
  have hD : va_D A [(a_this_, .inr (9, [.ref a_q_2, .ref a_q_7, .ref a_q_12, .int 0, .int 0])), (a_q_2, .inl (g 0, 100, .inl (fun _ => 0))), (a_q_7, .inl (g 0, 200, .inl (fun _ => 0))), (a_q_12, .inl (g 0, 200, .inl (fun _ => 0)))] := hD
  refine lv_aload_n hx hb dX7_init_35 rfl (lv_at hl 0 rfl) ?_
  refine lv_iconst (v := 0) hx hb dX7_init_36 (by decide) ?_
  refine va_put (D := (dC, dI)) (ci := 9) (v := .int 0) (ty := .int) (C := RX7) (T := TX7) (N := 5) hx hb hts hiX7 tyX7 tyX7_ok nmX7 hown hK hP hD hS 0 rfl rfl 4 (by decide) hf25 (fun _ h9 => h9) rfl (by decide +kernel) rfl rfl (Nat.le_of_ble_eq_true rfl) dX7_init_37 (fun H_19 L_20 hP hD hS => ?_)
  have hP : va_P (dC, dI) vwCl [(a_this_, .inr (9, [.ref a_q_2, .ref a_q_7, .ref a_q_12, .int 0, .int 0])), (a_q_2, .inl (g 0, 100, .inl (fun _ => 0))), (a_q_7, .inl (g 0, 200, .inl (fun _ => 0))), (a_q_12, .inl (g 0, 200, .inl (fun _ => 0)))] H_19 := hP
  have hD : va_D A [(a_this_, .inr (9, [.ref a_q_2, .ref a_q_7, .ref a_q_12, .int 0, .int 0])), (a_q_2, .inl (g 0, 100, .inl (fun _ => 0))), (a_q_7, .inl (g 0, 200, .inl (fun _ => 0))), (a_q_12, .inl (g 0, 200, .inl (fun _ => 0)))] := hD
  refine W.widen (k := 3) (n := 500) (by omega) (by omega) ?_
  exact W.vret hx hb hr (fun t ht hW => ⟨⟨((fun j => ([a_q_2, a_q_7, a_q_12] : List Nat).getD j 0), ()), rfl, hw, ⟨P_at ht hP, hD⟩⟩, hS.F ht⟩) hS.2.2 dX7_init_40
theorem dX8_init_0 : decode cX8_init 0 = .ok (.aload_n 0, 1) := by decide +kernel
theorem dX8_init_1 : decode cX8_init 1 = .ok (.invokespecial 3, 3) := by decide +kernel
theorem dX8_init_4 : decode cX8_init 4 = .ok (.aload_n 0, 1) := by decide +kernel
theorem dX8_init_5 : decode cX8_init 5 = .ok (.iconst 0, 1) := by decide +kernel
theorem dX8_init_6 : decode cX8_init 6 = .ok (.putfield 9, 3) := by decide +kernel
theorem dX8_init_9 : decode cX8_init 9 = .ok (.aload_n 0, 1) := by decide +kernel
theorem dX8_init_10 : decode cX8_init 10 = .ok (.iconst 1, 1) := by decide +kernel
theorem dX8_init_11 : decode cX8_init 11 = .ok (.putfield 15, 3) := by decide +kernel
theorem dX8_init_14 : decode cX8_init 14 = .ok (.aload_n 0, 1) := by decide +kernel
theorem dX8_init_15 : decode cX8_init 15 = .ok (.iconst 4, 1) := by decide +kernel
theorem dX8_init_16 : decode cX8_init 16 = .ok (.putfield 18, 3) := by decide +kernel
theorem dX8_init_19 : decode cX8_init 19 = .ok (.aload_n 0, 1) := by decide +kernel
theorem dX8_init_20 : decode cX8_init 20 = .ok (.iconst 0, 1) := by decide +kernel
theorem dX8_init_21 : decode cX8_init 21 = .ok (.putfield 21, 3) := by decide +kernel
theorem dX8_init_24 : decode cX8_init 24 = .ok (.aload_n 0, 1) := by decide +kernel
theorem dX8_init_25 : decode cX8_init 25 = .ok (.iconst 2, 1) := by decide +kernel
theorem dX8_init_26 : decode cX8_init 26 = .ok (.putfield 24, 3) := by decide +kernel
theorem dX8_init_29 : decode cX8_init 29 = .ok (.return_, 1) := by decide +kernel

set_option maxHeartbeats 8000000 in
set_option maxRecDepth 100000 in
theorem c_X8_init (l : Launch) (dC : Nat → ClassId) (dI : Nat → Nat → Nat) (g : Nat → ClassId) (a_this_ : Nat) (Q : Prop) (hw : wp_X8_init Q) (sz : Nat) : Met l yX8_init wqX8_init ({ frames := 1, cells := 0, slots := 0, locals := 12 }) (va_Pc [.ref a_this_] (PG (dC, dI) g [(a_this_, .inr (10, [.int 0, .int 0, .int 0, .int 0, .int 0]))] sz)) (va_Qv (fun (u : (Nat → Nat) × Unit) => Q) (fun (u : (Nat → Nat) × Unit) t9 => va_P (dC, dI) vwCl (sh_X8 a_this_ u.1 g) t9.heap ∧ va_D (va_A [(a_this_, .inr (10, [.int 0, .int 0, .int 0, .int 0, .int 0]))] sz) (sh_X8 a_this_ u.1 g)) (va_A [(a_this_, .inr (10, [.int 0, .int 0, .int 0, .int 0, .int 0]))] sz)) 0 0 (va_A [(a_this_, .inr (10, [.int 0, .int 0, .int 0, .int 0, .int 0]))] sz) := by
  refine Met.ofW (cc := cX8_init) (maxL := 1) (ret := none) (by decide) rfl ?_
  intro p e s m args below meth c s₁ B hml hv
  obtain ⟨rfl, hsz, hP, hK, hD0, hG⟩ := hv
  have hx := B.exec
  have hb := B.bytes
  have hr := B.returns
  have hts := atoms_spec (ws := wqX8_init) B.pre
  have hown : s.vm.findClass RX8 = some m.cls := findClass_of_methodNamed B.named
  have hlocks := B.notSynchronized
  subst hsz
  have hD := hD0.self (sz := s.heap.size)
  generalize hAe : va_A [(a_this_, .inr (10, [.int 0, .int 0, .int 0, .int 0, .int 0]))] s.heap.size = A at hD hG ⊢
  have hA : ∀ q : Nat, s.heap.size ≤ q → A q := fun q h => by rw [← hAe]; exact Or.inr h
  have hS : va_S A s.heap s.heap [] := va_S.rf
  have hrc : (headSpec wqX8_init ({ frames := 1, cells := 0, slots := 0, locals := 12 })).room.cells = 0 := rfl
  have hrs : (headSpec wqX8_init ({ frames := 1, cells := 0, slots := 0, locals := 12 })).room.slots = 0 := rfl
  have hl := lv_entry ([.ref a_this_]) (n := 1) (Nat.le_of_ble_eq_true rfl)
  rw [lg_entry_eq]
  generalize (lg_sl ([.ref a_this_]) ++ List.replicate (1 - (lg_sl ([.ref a_this_])).length) Slot.unset).toArray = ls at hl ⊢
  have hl : lv_has ls 1 [(0, .ref a_this_)] := hl
  unfold wp_X8_init at hw
  have hml3 := hts (Cond.methodLink RX8 3 objectInit) (aw_l aw_1_81)
  have hoi := hts (Cond.instanceMethod objectInit) (aw_l aw_1_38)
  have hoc := hts (Cond.code objectInit ⟨#[0xb1]⟩ 1 none) (aw_l aw_1_39)
  have hf9 := hts (Cond.fieldLink RX8 9 "RunmergeOffice$Settings" "order" "I") (aw_l aw_1_82)
  have hiX8 : ∀ w ∈ u_ws RX8 TX8 5, w ∈ wqX8_init := fun w h => aw_l (aw_wsX80 w h)
  have hf15 := hts (Cond.fieldLink RX8 15 "RunmergeOffice$Settings" "runWay" "I") (aw_l aw_1_87)
  have hf18 := hts (Cond.fieldLink RX8 18 "RunmergeOffice$Settings" "memory" "I") (aw_l aw_1_92)
  have hf21 := hts (Cond.fieldLink RX8 21 "RunmergeOffice$Settings" "mergeWay" "I") (aw_l aw_1_97)
  have hf24 := hts (Cond.fieldLink RX8 24 "RunmergeOffice$Settings" "ways" "I") (aw_l aw_1_102)
  refine lv_aload_n hx hb dX8_init_0 rfl (lv_at hl 0 rfl) ?_
  refine W.objInit hx hb hown hml3 hoi hoc rfl (by rw [hml]; exact hl.1) rfl dX8_init_1 (Nat.le_of_ble_eq_true rfl) (Nat.le_of_ble_eq_true rfl) ?_
  refine W.eq (g2 := F0 m 4 ls []) rfl ?_
  refine lv_aload_n hx hb dX8_init_4 rfl (lv_at hl 0 rfl) ?_
  refine lv_iconst (v := 0) hx hb dX8_init_5 (by decide) ?_
  refine va_put (D := (dC, dI)) (ci := 10) (v := .int 0) (ty := .int) (C := RX8) (T := TX8) (N := 5) hx hb hts hiX8 tyX8 tyX8_ok nmX8 hown hK hP hD hS 0 rfl rfl 0 (by decide) hf9 (fun _ h9 => h9) rfl (by decide +kernel) rfl rfl (Nat.le_of_ble_eq_true rfl) dX8_init_6 (fun H_2 L_3 hP hD hS => ?_)
  have hP : va_P (dC, dI) vwCl [(a_this_, .inr (10, [.int 0, .int 0, .int 0, .int 0, .int 0]))] H_2 := hP
  have hD : va_D A [(a_this_, .inr (10, [.int 0, .int 0, .int 0, .int 0, .int 0]))] := hD
  refine lv_aload_n hx hb dX8_init_9 rfl (lv_at hl 0 rfl) ?_
  refine lv_iconst (v := 1) hx hb dX8_init_10 (by decide) ?_
  refine va_put (D := (dC, dI)) (ci := 10) (v := .int 1) (ty := .int) (C := RX8) (T := TX8) (N := 5) hx hb hts hiX8 tyX8 tyX8_ok nmX8 hown hK hP hD hS 0 rfl rfl 1 (by decide) hf15 (fun _ h9 => h9) rfl (by decide +kernel) rfl rfl (Nat.le_of_ble_eq_true rfl) dX8_init_11 (fun H_4 L_5 hP hD hS => ?_)
  have hP : va_P (dC, dI) vwCl [(a_this_, .inr (10, [.int 0, .int 1, .int 0, .int 0, .int 0]))] H_4 := hP
  have hD : va_D A [(a_this_, .inr (10, [.int 0, .int 1, .int 0, .int 0, .int 0]))] := hD
  refine lv_aload_n hx hb dX8_init_14 rfl (lv_at hl 0 rfl) ?_
  refine lv_iconst (v := 4) hx hb dX8_init_15 (by decide) ?_
  refine va_put (D := (dC, dI)) (ci := 10) (v := .int 4) (ty := .int) (C := RX8) (T := TX8) (N := 5) hx hb hts hiX8 tyX8 tyX8_ok nmX8 hown hK hP hD hS 0 rfl rfl 2 (by decide) hf18 (fun _ h9 => h9) rfl (by decide +kernel) rfl rfl (Nat.le_of_ble_eq_true rfl) dX8_init_16 (fun H_6 L_7 hP hD hS => ?_)
  have hP : va_P (dC, dI) vwCl [(a_this_, .inr (10, [.int 0, .int 1, .int 4, .int 0, .int 0]))] H_6 := hP
  have hD : va_D A [(a_this_, .inr (10, [.int 0, .int 1, .int 4, .int 0, .int 0]))] := hD
  refine lv_aload_n hx hb dX8_init_19 rfl (lv_at hl 0 rfl) ?_
  refine lv_iconst (v := 0) hx hb dX8_init_20 (by decide) ?_
  refine va_put (D := (dC, dI)) (ci := 10) (v := .int 0) (ty := .int) (C := RX8) (T := TX8) (N := 5) hx hb hts hiX8 tyX8 tyX8_ok nmX8 hown hK hP hD hS 0 rfl rfl 3 (by decide) hf21 (fun _ h9 => h9) rfl (by decide +kernel) rfl rfl (Nat.le_of_ble_eq_true rfl) dX8_init_21 (fun H_8 L_9 hP hD hS => ?_)
  have hP : va_P (dC, dI) vwCl [(a_this_, .inr (10, [.int 0, .int 1, .int 4, .int 0, .int 0]))] H_8 := hP
  have hD : va_D A [(a_this_, .inr (10, [.int 0, .int 1, .int 4, .int 0, .int 0]))] := hD
  refine lv_aload_n hx hb dX8_init_24 rfl (lv_at hl 0 rfl) ?_
  refine lv_iconst (v := 2) hx hb dX8_init_25 (by decide) ?_
  refine va_put (D := (dC, dI)) (ci := 10) (v := .int 2) (ty := .int) (C := RX8) (T := TX8) (N := 5) hx hb hts hiX8 tyX8 tyX8_ok nmX8 hown hK hP hD hS 0 rfl rfl 4 (by decide) hf24 (fun _ h9 => h9) rfl (by decide +kernel) rfl rfl (Nat.le_of_ble_eq_true rfl) dX8_init_26 (fun H_10 L_11 hP hD hS => ?_)
  have hP : va_P (dC, dI) vwCl [(a_this_, .inr (10, [.int 0, .int 1, .int 4, .int 0, .int 2]))] H_10 := hP
  have hD : va_D A [(a_this_, .inr (10, [.int 0, .int 1, .int 4, .int 0, .int 2]))] := hD
  refine W.widen (k := 0) (n := 0) (by omega) (by omega) ?_
  exact W.vret hx hb hr (fun t ht hW => ⟨⟨((fun j => ([] : List Nat).getD j 0), ()), rfl, hw, ⟨P_at ht hP, hD⟩⟩, hS.F ht⟩) hS.2.2 dX8_init_29
theorem dX6_init_0 : decode cX6_init 0 = .ok (.aload_n 0, 1) := by decide +kernel
theorem dX6_init_1 : decode cX6_init 1 = .ok (.invokespecial 3, 3) := by decide +kernel
theorem dX6_init_4 : decode cX6_init 4 = .ok (.aload_n 0, 1) := by decide +kernel
theorem dX6_init_5 : decode cX6_init 5 = .ok (.bipush 50, 2) := by decide +kernel
theorem dX6_init_7 : decode cX6_init 7 = .ok (.newarray .int, 2) := by decide +kernel
theorem dX6_init_9 : decode cX6_init 9 = .ok (.putfield 9, 3) := by decide +kernel
theorem dX6_init_12 : decode cX6_init 12 = .ok (.aload_n 0, 1) := by decide +kernel
theorem dX6_init_13 : decode cX6_init 13 = .ok (.bipush 50, 2) := by decide +kernel
theorem dX6_init_15 : decode cX6_init 15 = .ok (.newarray .int, 2) := by decide +kernel
theorem dX6_init_17 : decode cX6_init 17 = .ok (.putfield 15, 3) := by decide +kernel
theorem dX6_init_20 : decode cX6_init 20 = .ok (.aload_n 0, 1) := by decide +kernel
theorem dX6_init_21 : decode cX6_init 21 = .ok (.iconst 0, 1) := by decide +kernel
theorem dX6_init_22 : decode cX6_init 22 = .ok (.putfield 18, 3) := by decide +kernel
theorem dX6_init_25 : decode cX6_init 25 = .ok (.return_, 1) := by decide +kernel

set_option maxHeartbeats 8000000 in
set_option maxRecDepth 100000 in
theorem c_X6_init (l : Launch) (dC : Nat → ClassId) (dI : Nat → Nat → Nat) (g : Nat → ClassId) (a_this_ : Nat) (Q : Prop) (hw : wp_X6_init Q) (sz : Nat) : Met l yX6_init wqX6_init ({ frames := 1, cells := 2, slots := 100, locals := 12 }) (va_Pc [.ref a_this_] (PG (dC, dI) g [(a_this_, .inr (8, [.null, .null, .int 0]))] sz)) (va_Qv (fun (u : (Nat → Nat) × Unit) => Q) (fun (u : (Nat → Nat) × Unit) t9 => va_P (dC, dI) vwCl (sh_X6 a_this_ u.1 g) t9.heap ∧ va_D (va_A [(a_this_, .inr (8, [.null, .null, .int 0]))] sz) (sh_X6 a_this_ u.1 g)) (va_A [(a_this_, .inr (8, [.null, .null, .int 0]))] sz)) 2 100 (va_A [(a_this_, .inr (8, [.null, .null, .int 0]))] sz) := by
  refine Met.ofW (cc := cX6_init) (maxL := 1) (ret := none) (by decide) rfl ?_
  intro p e s m args below meth c s₁ B hml hv
  obtain ⟨rfl, hsz, hP, hK, hD0, hG⟩ := hv
  have hx := B.exec
  have hb := B.bytes
  have hr := B.returns
  have hts := atoms_spec (ws := wqX6_init) B.pre
  have hown : s.vm.findClass RX6 = some m.cls := findClass_of_methodNamed B.named
  have hlocks := B.notSynchronized
  subst hsz
  have hD := hD0.self (sz := s.heap.size)
  generalize hAe : va_A [(a_this_, .inr (8, [.null, .null, .int 0]))] s.heap.size = A at hD hG ⊢
  have hA : ∀ q : Nat, s.heap.size ≤ q → A q := fun q h => by rw [← hAe]; exact Or.inr h
  have hS : va_S A s.heap s.heap [] := va_S.rf
  have hrc : (headSpec wqX6_init ({ frames := 1, cells := 2, slots := 100, locals := 12 })).room.cells = 2 := rfl
  have hrs : (headSpec wqX6_init ({ frames := 1, cells := 2, slots := 100, locals := 12 })).room.slots = 100 := rfl
  have hin : meth.name = "<init>" := (name_of_methodNamed B.named B.method).1
  have hl := lv_entry ([.ref a_this_]) (n := 1) (Nat.le_of_ble_eq_true rfl)
  rw [lg_entry_eq]
  generalize (lg_sl ([.ref a_this_]) ++ List.replicate (1 - (lg_sl ([.ref a_this_])).length) Slot.unset).toArray = ls at hl ⊢
  have hl : lv_has ls 1 [(0, .ref a_this_)] := hl
  unfold wp_X6_init at hw
  have hml3 := hts (Cond.methodLink RX6 3 objectInit) (aw_l aw_1_123)
  have hoi := hts (Cond.instanceMethod objectInit) (aw_l aw_1_38)
  have hoc := hts (Cond.code objectInit ⟨#[0xb1]⟩ 1 none) (aw_l aw_1_39)
  have hnaint := hts (Cond.arrayClass .int) (aw_l aw_1_57)
  have hf9 := hts (Cond.fieldLink RX6 9 "RunmergeOffice$RunMaker" "memory" "[I") (aw_l aw_1_124)
  have hiX6 : ∀ w ∈ u_ws RX6 TX6 3, w ∈ wqX6_init := fun w h => aw_l (aw_wsX60 w h)
  have hf15 := hts (Cond.fieldLink RX6 15 "RunmergeOffice$RunMaker" "runOf" "[I") (aw_l aw_1_125)
  have hf18 := hts (Cond.fieldLink RX6 18 "RunmergeOffice$RunMaker" "held" "I") (aw_l aw_1_126)
  refine lv_aload_n hx hb dX6_init_0 rfl (lv_at hl 0 rfl) ?_
  refine W.objInit hx hb hown hml3 hoi hoc rfl (by rw [hml]; exact hl.1) rfl dX6_init_1 (Nat.le_of_ble_eq_true rfl) (Nat.le_of_ble_eq_true rfl) ?_
  refine W.eq (g2 := F0 m 4 ls []) rfl ?_
  refine lv_aload_n hx hb dX6_init_4 rfl (lv_at hl 0 rfl) ?_
  refine lv_bipush (v := 50) hx hb dX6_init_5 (by decide) ?_
  refine va_newa (atype := .int) (a0 := (50, .inl (fun _ => 0))) hx hb hnaint rfl hK hP hD hS hA (fun _ => rfl) (by decide) (N' := 50) (by decide) (Nat.le_of_ble_eq_true rfl) (by rw [hrc]; omega) (by rw [hrs]; omega) dX6_init_7 (fun a_q_2 cA_4 H_3 hK9 hP hD hS => ?_)
  obtain rfl : g 0 = cA_4 := K_one hK9 0 5 rfl rfl
  obtain ⟨hP, hD⟩ := seg_join [[(a_this_, .inr (8, [.null, .null, .int 0]))]] [[(a_q_2, .inl (g 0, 50, .inl (fun _ => 0)))]] [[(a_this_, .inr (8, [.null, .null, .int 0]))], [(a_q_2, .inl (g 0, 50, .inl (fun _ => 0)))]] 2 [0, 1] rfl rfl (by decide) hP hD
  have hP : va_P (dC, dI) vwCl [(a_this_, .inr (8, [.null, .null, .int 0])), (a_q_2, .inl (g 0, 50, .inl (fun _ => 0)))] H_3 := hP
  have hD : va_D A [(a_this_, .inr (8, [.null, .null, .int 0])), (a_q_2, .inl (g 0, 50, .inl (fun _ => 0)))] := hD
  refine W.widen (k := 1) (n := 50) (by omega) (by omega) ?_
  refine va_putF (D := (dC, dI)) (ci := 8) (v := .ref a_q_2) (ty := .array .int) (C := RX6) (T := TX6) (N := 3) hx hb hts hiX6 tyX6 tyX6_ok nmX6 hown hK hP hD hS 0 rfl rfl 0 (by decide) hf9 (fun _ h9 => h9) rfl hin rfl (by decide +kernel) rfl rfl (Nat.le_of_ble_eq_true rfl) dX6_init_9 (fun H_5 L_6 hP hD hS => ?_)
  have hP : va_P (dC, dI) vwCl [(a_this_, .inr (8, [.ref a_q_2, .null, .int 0])), (a_q_2, .inl (g 0, 50, .inl (fun _ => 0)))] H_5 := hP
  have hD : va_D A [(a_this_, .inr (8, [.ref a_q_2, .null, .int 0])), (a_q_2, .inl (g 0, 50, .inl (fun _ => 0)))] := hD
  refine lv_aload_n hx hb dX6_init_12 rfl (lv_at hl 0 rfl) ?_
  refine lv_bipush (v := 50) hx hb dX6_init_13 (by decide) ?_
  refine va_newa (atype := .int) (a0 := (50, .inl (fun _ => 0))) hx hb hnaint rfl hK hP hD hS hA (fun _ => rfl) (by decide) (N' := 50) (by decide) (Nat.le_of_ble_eq_true rfl) (by rw [hrc]; omega) (by rw [hrs]; omega) dX6_init_15 (fun a_q_7 cA_9 H_8 hK9 hP hD hS => ?_)
  obtain rfl : g 0 = cA_9 := K_one hK9 0 5 rfl rfl
  obtain ⟨hP, hD⟩ := seg_join [[(a_this_, .inr (8, [.ref a_q_2, .null, .int 0]))], [(a_q_2, .inl (g 0, 50, .inl (fun _ => 0)))]] [[(a_q_7, .inl (g 0, 50, .inl (fun _ => 0)))]] [[(a_this_, .inr (8, [.ref a_q_2, .null, .int 0]))], [(a_q_2, .inl (g 0, 50, .inl (fun _ => 0)))], [(a_q_7, .inl (g 0, 50, .inl (fun _ => 0)))]] 3 [0, 1, 2] rfl rfl (by decide) hP hD
  have hP : va_P (dC, dI) vwCl [(a_this_, .inr (8, [.ref a_q_2, .null, .int 0])), (a_q_2, .inl (g 0, 50, .inl (fun _ => 0))), (a_q_7, .inl (g 0, 50, .inl (fun _ => 0)))] H_8 := hP
  have hD : va_D A [(a_this_, .inr (8, [.ref a_q_2, .null, .int 0])), (a_q_2, .inl (g 0, 50, .inl (fun _ => 0))), (a_q_7, .inl (g 0, 50, .inl (fun _ => 0)))] := hD
  refine W.widen (k := 2) (n := 100) (by omega) (by omega) ?_
  refine va_putF (D := (dC, dI)) (ci := 8) (v := .ref a_q_7) (ty := .array .int) (C := RX6) (T := TX6) (N := 3) hx hb hts hiX6 tyX6 tyX6_ok nmX6 hown hK hP hD hS 0 rfl rfl 1 (by decide) hf15 (fun _ h9 => h9) rfl hin rfl (by decide +kernel) rfl rfl (Nat.le_of_ble_eq_true rfl) dX6_init_17 (fun H_10 L_11 hP hD hS => ?_)
  have hP : va_P (dC, dI) vwCl [(a_this_, .inr (8, [.ref a_q_2, .ref a_q_7, .int 0])), (a_q_2, .inl (g 0, 50, .inl (fun _ => 0))), (a_q_7, .inl (g 0, 50, .inl (fun _ => 0)))] H_10 := hP
  have hD : va_D A [(a_this_, .inr (8, [.ref a_q_2, .ref a_q_7, .int 0])), (a_q_2, .inl (g 0, 50, .inl (fun _ => 0))), (a_q_7, .inl (g 0, 50, .inl (fun _ => 0)))] := hD
  refine lv_aload_n hx hb dX6_init_20 rfl (lv_at hl 0 rfl) ?_
  refine lv_iconst (v := 0) hx hb dX6_init_21 (by decide) ?_
  refine va_put (D := (dC, dI)) (ci := 8) (v := .int 0) (ty := .int) (C := RX6) (T := TX6) (N := 3) hx hb hts hiX6 tyX6 tyX6_ok nmX6 hown hK hP hD hS 0 rfl rfl 2 (by decide) hf18 (fun _ h9 => h9) rfl (by decide +kernel) rfl rfl (Nat.le_of_ble_eq_true rfl) dX6_init_22 (fun H_12 L_13 hP hD hS => ?_)
  have hP : va_P (dC, dI) vwCl [(a_this_, .inr (8, [.ref a_q_2, .ref a_q_7, .int 0])), (a_q_2, .inl (g 0, 50, .inl (fun _ => 0))), (a_q_7, .inl (g 0, 50, .inl (fun _ => 0)))] H_12 := hP
  have hD : va_D A [(a_this_, .inr (8, [.ref a_q_2, .ref a_q_7, .int 0])), (a_q_2, .inl (g 0, 50, .inl (fun _ => 0))), (a_q_7, .inl (g 0, 50, .inl (fun _ => 0)))] := hD
  refine W.widen (k := 2) (n := 100) (by omega) (by omega) ?_
  exact W.vret hx hb hr (fun t ht hW => ⟨⟨((fun j => ([a_q_2, a_q_7] : List Nat).getD j 0), ()), rfl, hw, ⟨P_at ht hP, hD⟩⟩, hS.F ht⟩) hS.2.2 dX6_init_25
theorem dX3_init_0 : decode cX3_init 0 = .ok (.aload_n 0, 1) := by decide +kernel
theorem dX3_init_1 : decode cX3_init 1 = .ok (.invokespecial 3, 3) := by decide +kernel
theorem dX3_init_4 : decode cX3_init 4 = .ok (.aload_n 0, 1) := by decide +kernel
theorem dX3_init_5 : decode cX3_init 5 = .ok (.sipush 200, 3) := by decide +kernel
theorem dX3_init_8 : decode cX3_init 8 = .ok (.newarray .int, 2) := by decide +kernel
theorem dX3_init_10 : decode cX3_init 10 = .ok (.putfield 9, 3) := by decide +kernel
theorem dX3_init_13 : decode cX3_init 13 = .ok (.aload_n 0, 1) := by decide +kernel
theorem dX3_init_14 : decode cX3_init 14 = .ok (.bipush 6, 2) := by decide +kernel
theorem dX3_init_16 : decode cX3_init 16 = .ok (.newarray .int, 2) := by decide +kernel
theorem dX3_init_18 : decode cX3_init 18 = .ok (.putfield 15, 3) := by decide +kernel
theorem dX3_init_21 : decode cX3_init 21 = .ok (.aload_n 0, 1) := by decide +kernel
theorem dX3_init_22 : decode cX3_init 22 = .ok (.iconst 0, 1) := by decide +kernel
theorem dX3_init_23 : decode cX3_init 23 = .ok (.putfield 18, 3) := by decide +kernel
theorem dX3_init_26 : decode cX3_init 26 = .ok (.aload_n 0, 1) := by decide +kernel
theorem dX3_init_27 : decode cX3_init 27 = .ok (.iconst 2, 1) := by decide +kernel
theorem dX3_init_28 : decode cX3_init 28 = .ok (.putfield 22, 3) := by decide +kernel
theorem dX3_init_31 : decode cX3_init 31 = .ok (.aload_n 0, 1) := by decide +kernel
theorem dX3_init_32 : decode cX3_init 32 = .ok (.iconst 0, 1) := by decide +kernel
theorem dX3_init_33 : decode cX3_init 33 = .ok (.putfield 25, 3) := by decide +kernel
theorem dX3_init_36 : decode cX3_init 36 = .ok (.aload_n 0, 1) := by decide +kernel
theorem dX3_init_37 : decode cX3_init 37 = .ok (.iconst 0, 1) := by decide +kernel
theorem dX3_init_38 : decode cX3_init 38 = .ok (.putfield 28, 3) := by decide +kernel
theorem dX3_init_41 : decode cX3_init 41 = .ok (.return_, 1) := by decide +kernel

set_option maxHeartbeats 8000000 in
set_option maxRecDepth 100000 in
theorem c_X3_init (l : Launch) (dC : Nat → ClassId) (dI : Nat → Nat → Nat) (g : Nat → ClassId) (a_this_ : Nat) (Q : Prop) (hw : wp_X3_init Q) (sz : Nat) : Met l yX3_init wqX3_init ({ frames := 1, cells := 2, slots := 206, locals := 12 }) (va_Pc [.ref a_this_] (PG (dC, dI) g [(a_this_, .inr (5, [.null, .null, .int 0, .int 0, .int 0, .int 0]))] sz)) (va_Qv (fun (u : (Nat → Nat) × Unit) => Q) (fun (u : (Nat → Nat) × Unit) t9 => va_P (dC, dI) vwCl (sh_X3 a_this_ u.1 g) t9.heap ∧ va_D (va_A [(a_this_, .inr (5, [.null, .null, .int 0, .int 0, .int 0, .int 0]))] sz) (sh_X3 a_this_ u.1 g)) (va_A [(a_this_, .inr (5, [.null, .null, .int 0, .int 0, .int 0, .int 0]))] sz)) 2 206 (va_A [(a_this_, .inr (5, [.null, .null, .int 0, .int 0, .int 0, .int 0]))] sz) := by
  refine Met.ofW (cc := cX3_init) (maxL := 1) (ret := none) (by decide) rfl ?_
  intro p e s m args below meth c s₁ B hml hv
  obtain ⟨rfl, hsz, hP, hK, hD0, hG⟩ := hv
  have hx := B.exec
  have hb := B.bytes
  have hr := B.returns
  have hts := atoms_spec (ws := wqX3_init) B.pre
  have hown : s.vm.findClass RX3 = some m.cls := findClass_of_methodNamed B.named
  have hlocks := B.notSynchronized
  subst hsz
  have hD := hD0.self (sz := s.heap.size)
  generalize hAe : va_A [(a_this_, .inr (5, [.null, .null, .int 0, .int 0, .int 0, .int 0]))] s.heap.size = A at hD hG ⊢
  have hA : ∀ q : Nat, s.heap.size ≤ q → A q := fun q h => by rw [← hAe]; exact Or.inr h
  have hS : va_S A s.heap s.heap [] := va_S.rf
  have hrc : (headSpec wqX3_init ({ frames := 1, cells := 2, slots := 206, locals := 12 })).room.cells = 2 := rfl
  have hrs : (headSpec wqX3_init ({ frames := 1, cells := 2, slots := 206, locals := 12 })).room.slots = 206 := rfl
  have hin : meth.name = "<init>" := (name_of_methodNamed B.named B.method).1
  have hl := lv_entry ([.ref a_this_]) (n := 1) (Nat.le_of_ble_eq_true rfl)
  rw [lg_entry_eq]
  generalize (lg_sl ([.ref a_this_]) ++ List.replicate (1 - (lg_sl ([.ref a_this_])).length) Slot.unset).toArray = ls at hl ⊢
  have hl : lv_has ls 1 [(0, .ref a_this_)] := hl
  unfold wp_X3_init at hw
  have hml3 := hts (Cond.methodLink RX3 3 objectInit) (aw_l aw_1_173)
  have hoi := hts (Cond.instanceMethod objectInit) (aw_l aw_1_38)
  have hoc := hts (Cond.code objectInit ⟨#[0xb1]⟩ 1 none) (aw_l aw_1_39)
  have hnaint := hts (Cond.arrayClass .int) (aw_l aw_1_57)
  have hf9 := hts (Cond.fieldLink RX3 9 "RunmergeOffice$Pass" "mergeTaking" "[I") (aw_l aw_1_174)
  have hiX3 : ∀ w ∈ u_ws RX3 TX3 6, w ∈ wqX3_init := fun w h => aw_l (aw_wsX30 w h)
  have hf15 := hts (Cond.fieldLink RX3 15 "RunmergeOffice$Pass" "rows" "[I") (aw_l aw_1_175)
  have hf18 := hts (Cond.fieldLink RX3 18 "RunmergeOffice$Pass" "way" "I") (aw_l aw_1_176)
  have hf22 := hts (Cond.fieldLink RX3 22 "RunmergeOffice$Pass" "ways" "I") (aw_l aw_1_177)
  have hf25 := hts (Cond.fieldLink RX3 25 "RunmergeOffice$Pass" "merges" "I") (aw_l aw_1_178)
  have hf28 := hts (Cond.fieldLink RX3 28 "RunmergeOffice$Pass" "level" "I") (aw_l aw_1_181)
  refine lv_aload_n hx hb dX3_init_0 rfl (lv_at hl 0 rfl) ?_
  refine W.objInit hx hb hown hml3 hoi hoc rfl (by rw [hml]; exact hl.1) rfl dX3_init_1 (Nat.le_of_ble_eq_true rfl) (Nat.le_of_ble_eq_true rfl) ?_
  refine W.eq (g2 := F0 m 4 ls []) rfl ?_
  refine lv_aload_n hx hb dX3_init_4 rfl (lv_at hl 0 rfl) ?_
  refine lv_sipush (v := 200) hx hb dX3_init_5 (by decide) ?_
  refine va_newa (atype := .int) (a0 := (200, .inl (fun _ => 0))) hx hb hnaint rfl hK hP hD hS hA (fun _ => rfl) (by decide) (N' := 200) (by decide) (Nat.le_of_ble_eq_true rfl) (by rw [hrc]; omega) (by rw [hrs]; omega) dX3_init_8 (fun a_q_2 cA_4 H_3 hK9 hP hD hS => ?_)
  obtain rfl : g 0 = cA_4 := K_one hK9 0 5 rfl rfl
  obtain ⟨hP, hD⟩ := seg_join [[(a_this_, .inr (5, [.null, .null, .int 0, .int 0, .int 0, .int 0]))]] [[(a_q_2, .inl (g 0, 200, .inl (fun _ => 0)))]] [[(a_this_, .inr (5, [.null, .null, .int 0, .int 0, .int 0, .int 0]))], [(a_q_2, .inl (g 0, 200, .inl (fun _ => 0)))]] 2 [0, 1] rfl rfl (by decide) hP hD
  have hP : va_P (dC, dI) vwCl [(a_this_, .inr (5, [.null, .null, .int 0, .int 0, .int 0, .int 0])), (a_q_2, .inl (g 0, 200, .inl (fun _ => 0)))] H_3 := hP
  have hD : va_D A [(a_this_, .inr (5, [.null, .null, .int 0, .int 0, .int 0, .int 0])), (a_q_2, .inl (g 0, 200, .inl (fun _ => 0)))] := hD
  refine W.widen (k := 1) (n := 200) (by omega) (by omega) ?_
  refine va_putF (D := (dC, dI)) (ci := 5) (v := .ref a_q_2) (ty := .array .int) (C := RX3) (T := TX3) (N := 6) hx hb hts hiX3 tyX3 tyX3_ok nmX3 hown hK hP hD hS 0 rfl rfl 0 (by decide) hf9 (fun _ h9 => h9) rfl hin rfl (by decide +kernel) rfl rfl (Nat.le_of_ble_eq_true rfl) dX3_init_10 (fun H_5 L_6 hP hD hS => ?_)
  have hP : va_P (dC, dI) vwCl [(a_this_, .inr (5, [.ref a_q_2, .null, .int 0, .int 0, .int 0, .int 0])), (a_q_2, .inl (g 0, 200, .inl (fun _ => 0)))] H_5 := hP
  have hD : va_D A [(a_this_, .inr (5, [.ref a_q_2, .null, .int 0, .int 0, .int 0, .int 0])), (a_q_2, .inl (g 0, 200, .inl (fun _ => 0)))] := hD
  refine lv_aload_n hx hb dX3_init_13 rfl (lv_at hl 0 rfl) ?_
  refine lv_bipush (v := 6) hx hb dX3_init_14 (by decide) ?_
  refine va_newa (atype := .int) (a0 := (6, .inl (fun _ => 0))) hx hb hnaint rfl hK hP hD hS hA (fun _ => rfl) (by decide) (N' := 6) (by decide) (Nat.le_of_ble_eq_true rfl) (by rw [hrc]; omega) (by rw [hrs]; omega) dX3_init_16 (fun a_q_7 cA_9 H_8 hK9 hP hD hS => ?_)
  obtain rfl : g 0 = cA_9 := K_one hK9 0 5 rfl rfl
  obtain ⟨hP, hD⟩ := seg_join [[(a_this_, .inr (5, [.ref a_q_2, .null, .int 0, .int 0, .int 0, .int 0]))], [(a_q_2, .inl (g 0, 200, .inl (fun _ => 0)))]] [[(a_q_7, .inl (g 0, 6, .inl (fun _ => 0)))]] [[(a_this_, .inr (5, [.ref a_q_2, .null, .int 0, .int 0, .int 0, .int 0]))], [(a_q_2, .inl (g 0, 200, .inl (fun _ => 0)))], [(a_q_7, .inl (g 0, 6, .inl (fun _ => 0)))]] 3 [0, 1, 2] rfl rfl (by decide) hP hD
  have hP : va_P (dC, dI) vwCl [(a_this_, .inr (5, [.ref a_q_2, .null, .int 0, .int 0, .int 0, .int 0])), (a_q_2, .inl (g 0, 200, .inl (fun _ => 0))), (a_q_7, .inl (g 0, 6, .inl (fun _ => 0)))] H_8 := hP
  have hD : va_D A [(a_this_, .inr (5, [.ref a_q_2, .null, .int 0, .int 0, .int 0, .int 0])), (a_q_2, .inl (g 0, 200, .inl (fun _ => 0))), (a_q_7, .inl (g 0, 6, .inl (fun _ => 0)))] := hD
  refine W.widen (k := 2) (n := 206) (by omega) (by omega) ?_
  refine va_putF (D := (dC, dI)) (ci := 5) (v := .ref a_q_7) (ty := .array .int) (C := RX3) (T := TX3) (N := 6) hx hb hts hiX3 tyX3 tyX3_ok nmX3 hown hK hP hD hS 0 rfl rfl 1 (by decide) hf15 (fun _ h9 => h9) rfl hin rfl (by decide +kernel) rfl rfl (Nat.le_of_ble_eq_true rfl) dX3_init_18 (fun H_10 L_11 hP hD hS => ?_)
  have hP : va_P (dC, dI) vwCl [(a_this_, .inr (5, [.ref a_q_2, .ref a_q_7, .int 0, .int 0, .int 0, .int 0])), (a_q_2, .inl (g 0, 200, .inl (fun _ => 0))), (a_q_7, .inl (g 0, 6, .inl (fun _ => 0)))] H_10 := hP
  have hD : va_D A [(a_this_, .inr (5, [.ref a_q_2, .ref a_q_7, .int 0, .int 0, .int 0, .int 0])), (a_q_2, .inl (g 0, 200, .inl (fun _ => 0))), (a_q_7, .inl (g 0, 6, .inl (fun _ => 0)))] := hD
  refine lv_aload_n hx hb dX3_init_21 rfl (lv_at hl 0 rfl) ?_
  refine lv_iconst (v := 0) hx hb dX3_init_22 (by decide) ?_
  refine va_put (D := (dC, dI)) (ci := 5) (v := .int 0) (ty := .int) (C := RX3) (T := TX3) (N := 6) hx hb hts hiX3 tyX3 tyX3_ok nmX3 hown hK hP hD hS 0 rfl rfl 2 (by decide) hf18 (fun _ h9 => h9) rfl (by decide +kernel) rfl rfl (Nat.le_of_ble_eq_true rfl) dX3_init_23 (fun H_12 L_13 hP hD hS => ?_)
  have hP : va_P (dC, dI) vwCl [(a_this_, .inr (5, [.ref a_q_2, .ref a_q_7, .int 0, .int 0, .int 0, .int 0])), (a_q_2, .inl (g 0, 200, .inl (fun _ => 0))), (a_q_7, .inl (g 0, 6, .inl (fun _ => 0)))] H_12 := hP
  have hD : va_D A [(a_this_, .inr (5, [.ref a_q_2, .ref a_q_7, .int 0, .int 0, .int 0, .int 0])), (a_q_2, .inl (g 0, 200, .inl (fun _ => 0))), (a_q_7, .inl (g 0, 6, .inl (fun _ => 0)))] := hD
  refine lv_aload_n hx hb dX3_init_26 rfl (lv_at hl 0 rfl) ?_
  refine lv_iconst (v := 2) hx hb dX3_init_27 (by decide) ?_
  refine va_put (D := (dC, dI)) (ci := 5) (v := .int 2) (ty := .int) (C := RX3) (T := TX3) (N := 6) hx hb hts hiX3 tyX3 tyX3_ok nmX3 hown hK hP hD hS 0 rfl rfl 3 (by decide) hf22 (fun _ h9 => h9) rfl (by decide +kernel) rfl rfl (Nat.le_of_ble_eq_true rfl) dX3_init_28 (fun H_14 L_15 hP hD hS => ?_)
  have hP : va_P (dC, dI) vwCl [(a_this_, .inr (5, [.ref a_q_2, .ref a_q_7, .int 0, .int 2, .int 0, .int 0])), (a_q_2, .inl (g 0, 200, .inl (fun _ => 0))), (a_q_7, .inl (g 0, 6, .inl (fun _ => 0)))] H_14 := hP
  have hD : va_D A [(a_this_, .inr (5, [.ref a_q_2, .ref a_q_7, .int 0, .int 2, .int 0, .int 0])), (a_q_2, .inl (g 0, 200, .inl (fun _ => 0))), (a_q_7, .inl (g 0, 6, .inl (fun _ => 0)))] := hD
  refine lv_aload_n hx hb dX3_init_31 rfl (lv_at hl 0 rfl) ?_
  refine lv_iconst (v := 0) hx hb dX3_init_32 (by decide) ?_
  refine va_put (D := (dC, dI)) (ci := 5) (v := .int 0) (ty := .int) (C := RX3) (T := TX3) (N := 6) hx hb hts hiX3 tyX3 tyX3_ok nmX3 hown hK hP hD hS 0 rfl rfl 4 (by decide) hf25 (fun _ h9 => h9) rfl (by decide +kernel) rfl rfl (Nat.le_of_ble_eq_true rfl) dX3_init_33 (fun H_16 L_17 hP hD hS => ?_)
  have hP : va_P (dC, dI) vwCl [(a_this_, .inr (5, [.ref a_q_2, .ref a_q_7, .int 0, .int 2, .int 0, .int 0])), (a_q_2, .inl (g 0, 200, .inl (fun _ => 0))), (a_q_7, .inl (g 0, 6, .inl (fun _ => 0)))] H_16 := hP
  have hD : va_D A [(a_this_, .inr (5, [.ref a_q_2, .ref a_q_7, .int 0, .int 2, .int 0, .int 0])), (a_q_2, .inl (g 0, 200, .inl (fun _ => 0))), (a_q_7, .inl (g 0, 6, .inl (fun _ => 0)))] := hD
  refine lv_aload_n hx hb dX3_init_36 rfl (lv_at hl 0 rfl) ?_
  refine lv_iconst (v := 0) hx hb dX3_init_37 (by decide) ?_
  refine va_put (D := (dC, dI)) (ci := 5) (v := .int 0) (ty := .int) (C := RX3) (T := TX3) (N := 6) hx hb hts hiX3 tyX3 tyX3_ok nmX3 hown hK hP hD hS 0 rfl rfl 5 (by decide) hf28 (fun _ h9 => h9) rfl (by decide +kernel) rfl rfl (Nat.le_of_ble_eq_true rfl) dX3_init_38 (fun H_18 L_19 hP hD hS => ?_)
  have hP : va_P (dC, dI) vwCl [(a_this_, .inr (5, [.ref a_q_2, .ref a_q_7, .int 0, .int 2, .int 0, .int 0])), (a_q_2, .inl (g 0, 200, .inl (fun _ => 0))), (a_q_7, .inl (g 0, 6, .inl (fun _ => 0)))] H_18 := hP
  have hD : va_D A [(a_this_, .inr (5, [.ref a_q_2, .ref a_q_7, .int 0, .int 2, .int 0, .int 0])), (a_q_2, .inl (g 0, 200, .inl (fun _ => 0))), (a_q_7, .inl (g 0, 6, .inl (fun _ => 0)))] := hD
  refine W.widen (k := 2) (n := 206) (by omega) (by omega) ?_
  exact W.vret hx hb hr (fun t ht hW => ⟨⟨((fun j => ([a_q_2, a_q_7] : List Nat).getD j 0), ()), rfl, hw, ⟨P_at ht hP, hD⟩⟩, hS.F ht⟩) hS.2.2 dX3_init_41
theorem dX10_init_0 : decode cX10_init 0 = .ok (.aload_n 0, 1) := by decide +kernel
theorem dX10_init_1 : decode cX10_init 1 = .ok (.invokespecial 3, 3) := by decide +kernel
theorem dX10_init_4 : decode cX10_init 4 = .ok (.aload_n 0, 1) := by decide +kernel
theorem dX10_init_5 : decode cX10_init 5 = .ok (.sipush 160, 3) := by decide +kernel
theorem dX10_init_8 : decode cX10_init 8 = .ok (.newarray .int, 2) := by decide +kernel
theorem dX10_init_10 : decode cX10_init 10 = .ok (.putfield 9, 3) := by decide +kernel
theorem dX10_init_13 : decode cX10_init 13 = .ok (.aload_n 0, 1) := by decide +kernel
theorem dX10_init_14 : decode cX10_init 14 = .ok (.iconst 0, 1) := by decide +kernel
theorem dX10_init_15 : decode cX10_init 15 = .ok (.putfield 15, 3) := by decide +kernel
theorem dX10_init_18 : decode cX10_init 18 = .ok (.return_, 1) := by decide +kernel

set_option maxHeartbeats 8000000 in
set_option maxRecDepth 100000 in
theorem c_X10_init (l : Launch) (dC : Nat → ClassId) (dI : Nat → Nat → Nat) (g : Nat → ClassId) (a_this_ : Nat) (Q : Prop) (hw : wp_X10_init Q) (sz : Nat) : Met l yX10_init wqX10_init ({ frames := 1, cells := 1, slots := 160, locals := 12 }) (va_Pc [.ref a_this_] (PG (dC, dI) g [(a_this_, .inr (12, [.null, .int 0]))] sz)) (va_Qv (fun (u : (Nat → Nat) × Unit) => Q) (fun (u : (Nat → Nat) × Unit) t9 => va_P (dC, dI) vwCl (sh_X10 a_this_ u.1 g) t9.heap ∧ va_D (va_A [(a_this_, .inr (12, [.null, .int 0]))] sz) (sh_X10 a_this_ u.1 g)) (va_A [(a_this_, .inr (12, [.null, .int 0]))] sz)) 1 160 (va_A [(a_this_, .inr (12, [.null, .int 0]))] sz) := by
  refine Met.ofW (cc := cX10_init) (maxL := 1) (ret := none) (by decide) rfl ?_
  intro p e s m args below meth c s₁ B hml hv
  obtain ⟨rfl, hsz, hP, hK, hD0, hG⟩ := hv
  have hx := B.exec
  have hb := B.bytes
  have hr := B.returns
  have hts := atoms_spec (ws := wqX10_init) B.pre
  have hown : s.vm.findClass RX10 = some m.cls := findClass_of_methodNamed B.named
  have hlocks := B.notSynchronized
  subst hsz
  have hD := hD0.self (sz := s.heap.size)
  generalize hAe : va_A [(a_this_, .inr (12, [.null, .int 0]))] s.heap.size = A at hD hG ⊢
  have hA : ∀ q : Nat, s.heap.size ≤ q → A q := fun q h => by rw [← hAe]; exact Or.inr h
  have hS : va_S A s.heap s.heap [] := va_S.rf
  have hrc : (headSpec wqX10_init ({ frames := 1, cells := 1, slots := 160, locals := 12 })).room.cells = 1 := rfl
  have hrs : (headSpec wqX10_init ({ frames := 1, cells := 1, slots := 160, locals := 12 })).room.slots = 160 := rfl
  have hin : meth.name = "<init>" := (name_of_methodNamed B.named B.method).1
  have hl := lv_entry ([.ref a_this_]) (n := 1) (Nat.le_of_ble_eq_true rfl)
  rw [lg_entry_eq]
  generalize (lg_sl ([.ref a_this_]) ++ List.replicate (1 - (lg_sl ([.ref a_this_])).length) Slot.unset).toArray = ls at hl ⊢
  have hl : lv_has ls 1 [(0, .ref a_this_)] := hl
  unfold wp_X10_init at hw
  have hml3 := hts (Cond.methodLink RX10 3 objectInit) (aw_l aw_2_66)
  have hoi := hts (Cond.instanceMethod objectInit) (aw_l aw_1_38)
  have hoc := hts (Cond.code objectInit ⟨#[0xb1]⟩ 1 none) (aw_l aw_1_39)
  have hnaint := hts (Cond.arrayClass .int) (aw_l aw_1_57)
  have hf9 := hts (Cond.fieldLink RX10 9 "RunmergeOffice$Text" "bytes" "[I") (aw_l aw_2_67)
  have hiX10 : ∀ w ∈ u_ws RX10 TX10 2, w ∈ wqX10_init := fun w h => aw_l (aw_wsX100 w h)
  have hf15 := hts (Cond.fieldLink RX10 15 "RunmergeOffice$Text" "size" "I") (aw_l aw_2_68)
  refine lv_aload_n hx hb dX10_init_0 rfl (lv_at hl 0 rfl) ?_
  refine W.objInit hx hb hown hml3 hoi hoc rfl (by rw [hml]; exact hl.1) rfl dX10_init_1 (Nat.le_of_ble_eq_true rfl) (Nat.le_of_ble_eq_true rfl) ?_
  refine W.eq (g2 := F0 m 4 ls []) rfl ?_
  refine lv_aload_n hx hb dX10_init_4 rfl (lv_at hl 0 rfl) ?_
  refine lv_sipush (v := 160) hx hb dX10_init_5 (by decide) ?_
  refine va_newa (atype := .int) (a0 := (160, .inl (fun _ => 0))) hx hb hnaint rfl hK hP hD hS hA (fun _ => rfl) (by decide) (N' := 160) (by decide) (Nat.le_of_ble_eq_true rfl) (by rw [hrc]; omega) (by rw [hrs]; omega) dX10_init_8 (fun a_q_2 cA_4 H_3 hK9 hP hD hS => ?_)
  obtain rfl : g 0 = cA_4 := K_one hK9 0 5 rfl rfl
  obtain ⟨hP, hD⟩ := seg_join [[(a_this_, .inr (12, [.null, .int 0]))]] [[(a_q_2, .inl (g 0, 160, .inl (fun _ => 0)))]] [[(a_this_, .inr (12, [.null, .int 0]))], [(a_q_2, .inl (g 0, 160, .inl (fun _ => 0)))]] 2 [0, 1] rfl rfl (by decide) hP hD
  have hP : va_P (dC, dI) vwCl [(a_this_, .inr (12, [.null, .int 0])), (a_q_2, .inl (g 0, 160, .inl (fun _ => 0)))] H_3 := hP
  have hD : va_D A [(a_this_, .inr (12, [.null, .int 0])), (a_q_2, .inl (g 0, 160, .inl (fun _ => 0)))] := hD
  refine W.widen (k := 1) (n := 160) (by omega) (by omega) ?_
  refine va_putF (D := (dC, dI)) (ci := 12) (v := .ref a_q_2) (ty := .array .int) (C := RX10) (T := TX10) (N := 2) hx hb hts hiX10 tyX10 tyX10_ok nmX10 hown hK hP hD hS 0 rfl rfl 0 (by decide) hf9 (fun _ h9 => h9) rfl hin rfl (by decide +kernel) rfl rfl (Nat.le_of_ble_eq_true rfl) dX10_init_10 (fun H_5 L_6 hP hD hS => ?_)
  have hP : va_P (dC, dI) vwCl [(a_this_, .inr (12, [.ref a_q_2, .int 0])), (a_q_2, .inl (g 0, 160, .inl (fun _ => 0)))] H_5 := hP
  have hD : va_D A [(a_this_, .inr (12, [.ref a_q_2, .int 0])), (a_q_2, .inl (g 0, 160, .inl (fun _ => 0)))] := hD
  refine lv_aload_n hx hb dX10_init_13 rfl (lv_at hl 0 rfl) ?_
  refine lv_iconst (v := 0) hx hb dX10_init_14 (by decide) ?_
  refine va_put (D := (dC, dI)) (ci := 12) (v := .int 0) (ty := .int) (C := RX10) (T := TX10) (N := 2) hx hb hts hiX10 tyX10 tyX10_ok nmX10 hown hK hP hD hS 0 rfl rfl 1 (by decide) hf15 (fun _ h9 => h9) rfl (by decide +kernel) rfl rfl (Nat.le_of_ble_eq_true rfl) dX10_init_15 (fun H_7 L_8 hP hD hS => ?_)
  have hP : va_P (dC, dI) vwCl [(a_this_, .inr (12, [.ref a_q_2, .int 0])), (a_q_2, .inl (g 0, 160, .inl (fun _ => 0)))] H_7 := hP
  have hD : va_D A [(a_this_, .inr (12, [.ref a_q_2, .int 0])), (a_q_2, .inl (g 0, 160, .inl (fun _ => 0)))] := hD
  refine W.widen (k := 1) (n := 160) (by omega) (by omega) ?_
  exact W.vret hx hb hr (fun t ht hW => ⟨⟨((fun j => ([a_q_2] : List Nat).getD j 0), ()), rfl, hw, ⟨P_at ht hP, hD⟩⟩, hS.F ht⟩) hS.2.2 dX10_init_18
theorem dX4_init_0 : decode cX4_init 0 = .ok (.aload_n 0, 1) := by decide +kernel
theorem dX4_init_1 : decode cX4_init 1 = .ok (.invokespecial 3, 3) := by decide +kernel
theorem dX4_init_4 : decode cX4_init 4 = .ok (.aload_n 0, 1) := by decide +kernel
theorem dX4_init_5 : decode cX4_init 5 = .ok (.new 9, 3) := by decide +kernel
theorem dX4_init_8 : decode cX4_init 8 = .ok (.dup, 1) := by decide +kernel
theorem dX4_init_9 : decode cX4_init 9 = .ok (.invokespecial 11, 3) := by decide +kernel
theorem dX4_init_12 : decode cX4_init 12 = .ok (.putfield 12, 3) := by decide +kernel
theorem dX4_init_15 : decode cX4_init 15 = .ok (.aload_n 0, 1) := by decide +kernel
theorem dX4_init_16 : decode cX4_init 16 = .ok (.sipush 200, 3) := by decide +kernel
theorem dX4_init_19 : decode cX4_init 19 = .ok (.newarray .int, 2) := by decide +kernel
theorem dX4_init_21 : decode cX4_init 21 = .ok (.putfield 18, 3) := by decide +kernel
theorem dX4_init_24 : decode cX4_init 24 = .ok (.aload_n 0, 1) := by decide +kernel
theorem dX4_init_25 : decode cX4_init 25 = .ok (.sipush 200, 3) := by decide +kernel
theorem dX4_init_28 : decode cX4_init 28 = .ok (.newarray .int, 2) := by decide +kernel
theorem dX4_init_30 : decode cX4_init 30 = .ok (.putfield 22, 3) := by decide +kernel
theorem dX4_init_33 : decode cX4_init 33 = .ok (.aload_n 0, 1) := by decide +kernel
theorem dX4_init_34 : decode cX4_init 34 = .ok (.iconst 0, 1) := by decide +kernel
theorem dX4_init_35 : decode cX4_init 35 = .ok (.putfield 25, 3) := by decide +kernel
theorem dX4_init_38 : decode cX4_init 38 = .ok (.aload_n 0, 1) := by decide +kernel
theorem dX4_init_39 : decode cX4_init 39 = .ok (.iconst 0, 1) := by decide +kernel
theorem dX4_init_40 : decode cX4_init 40 = .ok (.putfield 29, 3) := by decide +kernel
theorem dX4_init_43 : decode cX4_init 43 = .ok (.aload_n 0, 1) := by decide +kernel
theorem dX4_init_44 : decode cX4_init 44 = .ok (.iconst 0, 1) := by decide +kernel
theorem dX4_init_45 : decode cX4_init 45 = .ok (.putfield 32, 3) := by decide +kernel
theorem dX4_init_48 : decode cX4_init 48 = .ok (.aload_n 0, 1) := by decide +kernel
theorem dX4_init_49 : decode cX4_init 49 = .ok (.iconst 0, 1) := by decide +kernel
theorem dX4_init_50 : decode cX4_init 50 = .ok (.putfield 35, 3) := by decide +kernel
theorem dX4_init_53 : decode cX4_init 53 = .ok (.aload_n 0, 1) := by decide +kernel
theorem dX4_init_54 : decode cX4_init 54 = .ok (.iconst 0, 1) := by decide +kernel
theorem dX4_init_55 : decode cX4_init 55 = .ok (.putfield 38, 3) := by decide +kernel
theorem dX4_init_58 : decode cX4_init 58 = .ok (.return_, 1) := by decide +kernel

set_option maxHeartbeats 8000000 in
set_option maxRecDepth 100000 in
theorem c_X4_init (l : Launch) (dC : Nat → ClassId) (dI : Nat → Nat → Nat) (g : Nat → ClassId) (a_this_ : Nat) (Q : Prop) (hw : wp_X4_init Q) (sz : Nat) : Met l yX4_init wqX4_init ({ frames := 2, cells := 5, slots := 612, locals := 32 }) (va_Pc [.ref a_this_] (PG (dC, dI) g [(a_this_, .inr (6, [.null, .null, .null, .int 0, .int 0, .int 0, .int 0, .int 0]))] sz)) (va_Qv (fun (u : (Nat → Nat) × Unit) => Q) (fun (u : (Nat → Nat) × Unit) t9 => va_P (dC, dI) vwCl (sh_X4 a_this_ u.1 g) t9.heap ∧ va_D (va_A [(a_this_, .inr (6, [.null, .null, .null, .int 0, .int 0, .int 0, .int 0, .int 0]))] sz) (sh_X4 a_this_ u.1 g)) (va_A [(a_this_, .inr (6, [.null, .null, .null, .int 0, .int 0, .int 0, .int 0, .int 0]))] sz)) 5 612 (va_A [(a_this_, .inr (6, [.null, .null, .null, .int 0, .int 0, .int 0, .int 0, .int 0]))] sz) := by
  refine Met.ofW (cc := cX4_init) (maxL := 1) (ret := none) (by decide) rfl ?_
  intro p e s m args below meth c s₁ B hml hv
  obtain ⟨rfl, hsz, hP, hK, hD0, hG⟩ := hv
  have hx := B.exec
  have hb := B.bytes
  have hr := B.returns
  have hts := atoms_spec (ws := wqX4_init) B.pre
  have hown : s.vm.findClass RX4 = some m.cls := findClass_of_methodNamed B.named
  have hlocks := B.notSynchronized
  subst hsz
  have hD := hD0.self (sz := s.heap.size)
  generalize hAe : va_A [(a_this_, .inr (6, [.null, .null, .null, .int 0, .int 0, .int 0, .int 0, .int 0]))] s.heap.size = A at hD hG ⊢
  have hA : ∀ q : Nat, s.heap.size ≤ q → A q := fun q h => by rw [← hAe]; exact Or.inr h
  have hS : va_S A s.heap s.heap [] := va_S.rf
  have hrc : (headSpec wqX4_init ({ frames := 2, cells := 5, slots := 612, locals := 32 })).room.cells = 5 := rfl
  have hrs : (headSpec wqX4_init ({ frames := 2, cells := 5, slots := 612, locals := 32 })).room.slots = 612 := rfl
  have hin : meth.name = "<init>" := (name_of_methodNamed B.named B.method).1
  have hl := lv_entry ([.ref a_this_]) (n := 1) (Nat.le_of_ble_eq_true rfl)
  rw [lg_entry_eq]
  generalize (lg_sl ([.ref a_this_]) ++ List.replicate (1 - (lg_sl ([.ref a_this_])).length) Slot.unset).toArray = ls at hl ⊢
  have hl : lv_has ls 1 [(0, .ref a_this_)] := hl
  unfold wp_X4_init at hw
  have hml3 := hts (Cond.methodLink RX4 3 objectInit) (aw_l aw_1_167)
  have hoi := hts (Cond.instanceMethod objectInit) (aw_l aw_1_38)
  have hoc := hts (Cond.code objectInit ⟨#[0xb1]⟩ 1 none) (aw_l aw_1_39)
  have hcl9 := hts (Cond.classLink RX4 9 RX3) (aw_l aw_1_168)
  have hinX3 := hts (Cond.instantiable RX3 6) (aw_l aw_1_169)
  have hiniX3 := hts (Cond.initialized RX3) (aw_l aw_1_8)
  have hiX3 : ∀ w ∈ u_ws RX3 TX3 6, w ∈ wqX4_init := fun w h => aw_l (aw_wsX30 w h)
  have himX3_init := hts (Cond.instanceMethod yX3_init) (aw_l aw_1_171)
  have hf12 := hts (Cond.fieldLink RX4 12 "RunmergeOffice$Plan" "pass" "LRunmergeOffice$Pass;") (aw_l aw_1_196)
  have hiX4 : ∀ w ∈ u_ws RX4 TX4 8, w ∈ wqX4_init := fun w h => aw_l (aw_wsX40 w h)
  have hnaint := hts (Cond.arrayClass .int) (aw_l aw_1_57)
  have hf18 := hts (Cond.fieldLink RX4 18 "RunmergeOffice$Plan" "lengths" "[I") (aw_l aw_1_198)
  have hf22 := hts (Cond.fieldLink RX4 22 "RunmergeOffice$Plan" "newLengths" "[I") (aw_l aw_1_199)
  have hf25 := hts (Cond.fieldLink RX4 25 "RunmergeOffice$Plan" "count" "I") (aw_l aw_1_200)
  have hf29 := hts (Cond.fieldLink RX4 29 "RunmergeOffice$Plan" "newCount" "I") (aw_l aw_1_201)
  have hf32 := hts (Cond.fieldLink RX4 32 "RunmergeOffice$Plan" "passes" "I") (aw_l aw_1_202)
  have hf35 := hts (Cond.fieldLink RX4 35 "RunmergeOffice$Plan" "moves" "I") (aw_l aw_1_205)
  have hf38 := hts (Cond.fieldLink RX4 38 "RunmergeOffice$Plan" "merges" "I") (aw_l aw_1_208)
  refine lv_aload_n hx hb dX4_init_0 rfl (lv_at hl 0 rfl) ?_
  refine W.objInit hx hb hown hml3 hoi hoc rfl (by rw [hml]; exact hl.1) rfl dX4_init_1 (Nat.le_of_ble_eq_true rfl) (Nat.le_of_ble_eq_true rfl) ?_
  refine W.eq (g2 := F0 m 4 ls []) rfl ?_
  refine lv_aload_n hx hb dX4_init_4 rfl (lv_at hl 0 rfl) ?_
  refine va_new (ci := 5) (fs := [.null, .null, .int 0, .int 0, .int 0, .int 0]) (C := RX3) (T := TX3) (N := 6) hx hb hts hiX3 tyX3 tyX3_ok hown hcl9 hinX3 hiniX3 hK hP hD hS hA rfl (fun j hj => by rcases (show j = 0 ∨ j = 1 ∨ j = 2 ∨ j = 3 ∨ j = 4 ∨ j = 5 by omega) with rfl | rfl | rfl | rfl | rfl | rfl <;> rfl) (by rw [hrc]; omega) (by rw [hrs]; omega) dX4_init_5 (fun a_q_2 H_3 hP hD hS => ?_)
  obtain ⟨hP, hD⟩ := seg_join [[(a_this_, .inr (6, [.null, .null, .null, .int 0, .int 0, .int 0, .int 0, .int 0]))]] [[(a_q_2, .inr (5, [.null, .null, .int 0, .int 0, .int 0, .int 0]))]] [[(a_this_, .inr (6, [.null, .null, .null, .int 0, .int 0, .int 0, .int 0, .int 0]))], [(a_q_2, .inr (5, [.null, .null, .int 0, .int 0, .int 0, .int 0]))]] 2 [0, 1] rfl rfl (by decide) hP hD
  have hP : va_P (dC, dI) vwCl [(a_this_, .inr (6, [.null, .null, .null, .int 0, .int 0, .int 0, .int 0, .int 0])), (a_q_2, .inr (5, [.null, .null, .int 0, .int 0, .int 0, .int 0]))] H_3 := hP
  have hD : va_D A [(a_this_, .inr (6, [.null, .null, .null, .int 0, .int 0, .int 0, .int 0, .int 0])), (a_q_2, .inr (5, [.null, .null, .int 0, .int 0, .int 0, .int 0]))] := hD
  refine W.widen (k := 1) (n := 6) (by omega) (by omega) ?_
  refine lv_dup hx hb dX4_init_8 rfl ?_
  obtain ⟨hPs, hDs⟩ := seg_call (segs := [[(a_this_, .inr (6, [.null, .null, .null, .int 0, .int 0, .int 0, .int 0, .int 0]))], [(a_q_2, .inr (5, [.null, .null, .int 0, .int 0, .int 0, .int 0]))]]) [[(a_this_, .inr (6, [.null, .null, .null, .int 0, .int 0, .int 0, .int 0, .int 0]))]] [[(a_q_2, .inr (5, [.null, .null, .int 0, .int 0, .int 0, .int 0]))]] 2 [0, 1] rfl rfl (by decide) hP hD
  have hPc : va_P (dC, dI) vwCl [(a_q_2, .inr (5, [.null, .null, .int 0, .int 0, .int 0, .int 0]))] H_3 := P_r hPs
  have hDc : va_D A [(a_q_2, .inr (5, [.null, .null, .int 0, .int 0, .int 0, .int 0]))] := D_r hDs
  have hFc : ∀ q, va_A [(a_q_2, .inr (5, [.null, .null, .int 0, .int 0, .int 0, .int 0]))] H_3.size q → A q := A_all hDc hA hS.1
  refine va_callv (va_runIN (As := []) (rest := [.ref a_q_2, .ref a_this_]) ⟨hx, hb, hml, hown, hts⟩ (c_X3_init l dC dI g (a_this_ := a_q_2) (hw := hw) (sz := H_3.size)) ⟨va_cnB 0 hts (gq0 aw_1_172) rfl rfl rfl (mnl_6 hG) hiniX3 (by decide +kernel) ⟨Nat.le_of_ble_eq_true rfl, Nat.le_of_ble_eq_true rfl⟩, rfl, himX3_init⟩ ⟨PG_blind, PG_call hK hG hS hPc hDc hFc⟩ rfl rfl hl.1 rfl (lv_room (Nat.le_of_ble_eq_true rfl)) dX4_init_9 ⟨by rw [hrc]; omega, by rw [hrs]; omega⟩) hS (fun q _ h => hFc q h) hFc (fun u_5 t_5 H_5 L_5 ht_5 hvm_5 hw_5 hB_5 hz_5 hk_5 hS => ?_)
  obtain ⟨u_6, u_5⟩ := u_5
  have hw := hw_5
  rw [ht_5] at hB_5
  obtain ⟨hP1, hD1⟩ := hB_5
  obtain ⟨hP, hD⟩ := join_r hPs hDs hk_5 hFc hP1 hD1
  obtain ⟨hP, hD⟩ := seg_join [[(a_this_, .inr (6, [.null, .null, .null, .int 0, .int 0, .int 0, .int 0, .int 0]))]] [[(a_q_2, .inr (5, [.ref (u_6 0), .ref (u_6 1), .int 0, .int 2, .int 0, .int 0]))], [((u_6 0), .inl (g 0, 200, .inl (fun _ => 0)))], [((u_6 1), .inl (g 0, 6, .inl (fun _ => 0)))]] [[(a_this_, .inr (6, [.null, .null, .null, .int 0, .int 0, .int 0, .int 0, .int 0]))], [(a_q_2, .inr (5, [.ref (u_6 0), .ref (u_6 1), .int 0, .int 2, .int 0, .int 0]))], [((u_6 0), .inl (g 0, 200, .inl (fun _ => 0)))], [((u_6 1), .inl (g 0, 6, .inl (fun _ => 0)))]] 4 [0, 1, 2, 3] rfl rfl (by decide) hP hD
  have hP : va_P (dC, dI) vwCl [(a_this_, .inr (6, [.null, .null, .null, .int 0, .int 0, .int 0, .int 0, .int 0])), (a_q_2, .inr (5, [.ref (u_6 0), .ref (u_6 1), .int 0, .int 2, .int 0, .int 0])), ((u_6 0), .inl (g 0, 200, .inl (fun _ => 0))), ((u_6 1), .inl (g 0, 6, .inl (fun _ => 0)))] H_5 := hP
  have hD : va_D A [(a_this_, .inr (6, [.null, .null, .null, .int 0, .int 0, .int 0, .int 0, .int 0])), (a_q_2, .inr (5, [.ref (u_6 0), .ref (u_6 1), .int 0, .int 2, .int 0, .int 0])), ((u_6 0), .inl (g 0, 200, .inl (fun _ => 0))), ((u_6 1), .inl (g 0, 6, .inl (fun _ => 0)))] := hD
  refine W.widen (k := 3) (n := 212) (by omega) (by omega) ?_
  refine va_putF (D := (dC, dI)) (ci := 6) (v := .ref a_q_2) (ty := .object "RunmergeOffice$Pass") (C := RX4) (T := TX4) (N := 8) hx hb hts hiX4 tyX4 tyX4_ok nmX4 hown hK hP hD hS 0 rfl rfl 0 (by decide) hf12 (fun _ h9 => h9) rfl hin rfl (by decide +kernel) rfl rfl (Nat.le_of_ble_eq_true rfl) dX4_init_12 (fun H_7 L_8 hP hD hS => ?_)
  have hP : va_P (dC, dI) vwCl [(a_this_, .inr (6, [.ref a_q_2, .null, .null, .int 0, .int 0, .int 0, .int 0, .int 0])), (a_q_2, .inr (5, [.ref (u_6 0), .ref (u_6 1), .int 0, .int 2, .int 0, .int 0])), ((u_6 0), .inl (g 0, 200, .inl (fun _ => 0))), ((u_6 1), .inl (g 0, 6, .inl (fun _ => 0)))] H_7 := hP
  have hD : va_D A [(a_this_, .inr (6, [.ref a_q_2, .null, .null, .int 0, .int 0, .int 0, .int 0, .int 0])), (a_q_2, .inr (5, [.ref (u_6 0), .ref (u_6 1), .int 0, .int 2, .int 0, .int 0])), ((u_6 0), .inl (g 0, 200, .inl (fun _ => 0))), ((u_6 1), .inl (g 0, 6, .inl (fun _ => 0)))] := hD
  refine lv_aload_n hx hb dX4_init_15 rfl (lv_at hl 0 rfl) ?_
  refine lv_sipush (v := 200) hx hb dX4_init_16 (by decide) ?_
  refine va_newa (atype := .int) (a0 := (200, .inl (fun _ => 0))) hx hb hnaint rfl hK hP hD hS hA (fun _ => rfl) (by decide) (N' := 200) (by decide) (Nat.le_of_ble_eq_true rfl) (by rw [hrc]; omega) (by rw [hrs]; omega) dX4_init_19 (fun a_q_9 cA_11 H_10 hK9 hP hD hS => ?_)
  obtain rfl : g 0 = cA_11 := K_one hK9 0 5 rfl rfl
  obtain ⟨hP, hD⟩ := seg_join [[(a_this_, .inr (6, [.ref a_q_2, .null, .null, .int 0, .int 0, .int 0, .int 0, .int 0]))], [(a_q_2, .inr (5, [.ref (u_6 0), .ref (u_6 1), .int 0, .int 2, .int 0, .int 0]))], [((u_6 0), .inl (g 0, 200, .inl (fun _ => 0)))], [((u_6 1), .inl (g 0, 6, .inl (fun _ => 0)))]] [[(a_q_9, .inl (g 0, 200, .inl (fun _ => 0)))]] [[(a_this_, .inr (6, [.ref a_q_2, .null, .null, .int 0, .int 0, .int 0, .int 0, .int 0]))], [(a_q_2, .inr (5, [.ref (u_6 0), .ref (u_6 1), .int 0, .int 2, .int 0, .int 0]))], [((u_6 0), .inl (g 0, 200, .inl (fun _ => 0)))], [((u_6 1), .inl (g 0, 6, .inl (fun _ => 0)))], [(a_q_9, .inl (g 0, 200, .inl (fun _ => 0)))]] 5 [0, 1, 2, 3, 4] rfl rfl (by decide) hP hD
  have hP : va_P (dC, dI) vwCl [(a_this_, .inr (6, [.ref a_q_2, .null, .null, .int 0, .int 0, .int 0, .int 0, .int 0])), (a_q_2, .inr (5, [.ref (u_6 0), .ref (u_6 1), .int 0, .int 2, .int 0, .int 0])), ((u_6 0), .inl (g 0, 200, .inl (fun _ => 0))), ((u_6 1), .inl (g 0, 6, .inl (fun _ => 0))), (a_q_9, .inl (g 0, 200, .inl (fun _ => 0)))] H_10 := hP
  have hD : va_D A [(a_this_, .inr (6, [.ref a_q_2, .null, .null, .int 0, .int 0, .int 0, .int 0, .int 0])), (a_q_2, .inr (5, [.ref (u_6 0), .ref (u_6 1), .int 0, .int 2, .int 0, .int 0])), ((u_6 0), .inl (g 0, 200, .inl (fun _ => 0))), ((u_6 1), .inl (g 0, 6, .inl (fun _ => 0))), (a_q_9, .inl (g 0, 200, .inl (fun _ => 0)))] := hD
  refine W.widen (k := 4) (n := 412) (by omega) (by omega) ?_
  refine va_put (D := (dC, dI)) (ci := 6) (v := .ref a_q_9) (ty := .array .int) (C := RX4) (T := TX4) (N := 8) hx hb hts hiX4 tyX4 tyX4_ok nmX4 hown hK hP hD hS 0 rfl rfl 1 (by decide) hf18 (fun _ h9 => h9) rfl (by decide +kernel) rfl rfl (Nat.le_of_ble_eq_true rfl) dX4_init_21 (fun H_12 L_13 hP hD hS => ?_)
  have hP : va_P (dC, dI) vwCl [(a_this_, .inr (6, [.ref a_q_2, .ref a_q_9, .null, .int 0, .int 0, .int 0, .int 0, .int 0])), (a_q_2, .inr (5, [.ref (u_6 0), .ref (u_6 1), .int 0, .int 2, .int 0, .int 0])), ((u_6 0), .inl (g 0, 200, .inl (fun _ => 0))), ((u_6 1), .inl (g 0, 6, .inl (fun _ => 0))), (a_q_9, .inl (g 0, 200, .inl (fun _ => 0)))] H_12 := hP
  have hD : va_D A [(a_this_, .inr (6, [.ref a_q_2, .ref a_q_9, .null, .int 0, .int 0, .int 0, .int 0, .int 0])), (a_q_2, .inr (5, [.ref (u_6 0), .ref (u_6 1), .int 0, .int 2, .int 0, .int 0])), ((u_6 0), .inl (g 0, 200, .inl (fun _ => 0))), ((u_6 1), .inl (g 0, 6, .inl (fun _ => 0))), (a_q_9, .inl (g 0, 200, .inl (fun _ => 0)))] := hD
  refine lv_aload_n hx hb dX4_init_24 rfl (lv_at hl 0 rfl) ?_
  refine lv_sipush (v := 200) hx hb dX4_init_25 (by decide) ?_
  refine va_newa (atype := .int) (a0 := (200, .inl (fun _ => 0))) hx hb hnaint rfl hK hP hD hS hA (fun _ => rfl) (by decide) (N' := 200) (by decide) (Nat.le_of_ble_eq_true rfl) (by rw [hrc]; omega) (by rw [hrs]; omega) dX4_init_28 (fun a_q_14 cA_16 H_15 hK9 hP hD hS => ?_)
  obtain rfl : g 0 = cA_16 := K_one hK9 0 5 rfl rfl
  obtain ⟨hP, hD⟩ := seg_join [[(a_this_, .inr (6, [.ref a_q_2, .ref a_q_9, .null, .int 0, .int 0, .int 0, .int 0, .int 0]))], [(a_q_2, .inr (5, [.ref (u_6 0), .ref (u_6 1), .int 0, .int 2, .int 0, .int 0]))], [((u_6 0), .inl (g 0, 200, .inl (fun _ => 0)))], [((u_6 1), .inl (g 0, 6, .inl (fun _ => 0)))], [(a_q_9, .inl (g 0, 200, .inl (fun _ => 0)))]] [[(a_q_14, .inl (g 0, 200, .inl (fun _ => 0)))]] [[(a_this_, .inr (6, [.ref a_q_2, .ref a_q_9, .null, .int 0, .int 0, .int 0, .int 0, .int 0]))], [(a_q_2, .inr (5, [.ref (u_6 0), .ref (u_6 1), .int 0, .int 2, .int 0, .int 0]))], [((u_6 0), .inl (g 0, 200, .inl (fun _ => 0)))], [((u_6 1), .inl (g 0, 6, .inl (fun _ => 0)))], [(a_q_9, .inl (g 0, 200, .inl (fun _ => 0)))], [(a_q_14, .inl (g 0, 200, .inl (fun _ => 0)))]] 6 [0, 1, 2, 3, 4, 5] rfl rfl (by decide) hP hD
  have hP : va_P (dC, dI) vwCl [(a_this_, .inr (6, [.ref a_q_2, .ref a_q_9, .null, .int 0, .int 0, .int 0, .int 0, .int 0])), (a_q_2, .inr (5, [.ref (u_6 0), .ref (u_6 1), .int 0, .int 2, .int 0, .int 0])), ((u_6 0), .inl (g 0, 200, .inl (fun _ => 0))), ((u_6 1), .inl (g 0, 6, .inl (fun _ => 0))), (a_q_9, .inl (g 0, 200, .inl (fun _ => 0))), (a_q_14, .inl (g 0, 200, .inl (fun _ => 0)))] H_15 := hP
  have hD : va_D A [(a_this_, .inr (6, [.ref a_q_2, .ref a_q_9, .null, .int 0, .int 0, .int 0, .int 0, .int 0])), (a_q_2, .inr (5, [.ref (u_6 0), .ref (u_6 1), .int 0, .int 2, .int 0, .int 0])), ((u_6 0), .inl (g 0, 200, .inl (fun _ => 0))), ((u_6 1), .inl (g 0, 6, .inl (fun _ => 0))), (a_q_9, .inl (g 0, 200, .inl (fun _ => 0))), (a_q_14, .inl (g 0, 200, .inl (fun _ => 0)))] := hD
  refine W.widen (k := 5) (n := 612) (by omega) (by omega) ?_
  refine va_put (D := (dC, dI)) (ci := 6) (v := .ref a_q_14) (ty := .array .int) (C := RX4) (T := TX4) (N := 8) hx hb hts hiX4 tyX4 tyX4_ok nmX4 hown hK hP hD hS 0 rfl rfl 2 (by decide) hf22 (fun _ h9 => h9) rfl (by decide +kernel) rfl rfl (Nat.le_of_ble_eq_true rfl) dX4_init_30 (fun H_17 L_18 hP hD hS => ?_)
  have hP : va_P (dC, dI) vwCl [(a_this_, .inr (6, [.ref a_q_2, .ref a_q_9, .ref a_q_14, .int 0, .int 0, .int 0, .int 0, .int 0])), (a_q_2, .inr (5, [.ref (u_6 0), .ref (u_6 1), .int 0, .int 2, .int 0, .int 0])), ((u_6 0), .inl (g 0, 200, .inl (fun _ => 0))), ((u_6 1), .inl (g 0, 6, .inl (fun _ => 0))), (a_q_9, .inl (g 0, 200, .inl (fun _ => 0))), (a_q_14, .inl (g 0, 200, .inl (fun _ => 0)))] H_17 := hP
  have hD : va_D A [(a_this_, .inr (6, [.ref a_q_2, .ref a_q_9, .ref a_q_14, .int 0, .int 0, .int 0, .int 0, .int 0])), (a_q_2, .inr (5, [.ref (u_6 0), .ref (u_6 1), .int 0, .int 2, .int 0, .int 0])), ((u_6 0), .inl (g 0, 200, .inl (fun _ => 0))), ((u_6 1), .inl (g 0, 6, .inl (fun _ => 0))), (a_q_9, .inl (g 0, 200, .inl (fun _ => 0))), (a_q_14, .inl (g 0, 200, .inl (fun _ => 0)))] := hD
  refine lv_aload_n hx hb dX4_init_33 rfl (lv_at hl 0 rfl) ?_
  refine lv_iconst (v := 0) hx hb dX4_init_34 (by decide) ?_
  refine va_put (D := (dC, dI)) (ci := 6) (v := .int 0) (ty := .int) (C := RX4) (T := TX4) (N := 8) hx hb hts hiX4 tyX4 tyX4_ok nmX4 hown hK hP hD hS 0 rfl rfl 3 (by decide) hf25 (fun _ h9 => h9) rfl (by decide +kernel) rfl rfl (Nat.le_of_ble_eq_true rfl) dX4_init_35 (fun H_19 L_20 hP hD hS => ?_)
  have hP : va_P (dC, dI) vwCl [(a_this_, .inr (6, [.ref a_q_2, .ref a_q_9, .ref a_q_14, .int 0, .int 0, .int 0, .int 0, .int 0])), (a_q_2, .inr (5, [.ref (u_6 0), .ref (u_6 1), .int 0, .int 2, .int 0, .int 0])), ((u_6 0), .inl (g 0, 200, .inl (fun _ => 0))), ((u_6 1), .inl (g 0, 6, .inl (fun _ => 0))), (a_q_9, .inl (g 0, 200, .inl (fun _ => 0))), (a_q_14, .inl (g 0, 200, .inl (fun _ => 0)))] H_19 := hP
  have hD : va_D A [(a_this_, .inr (6, [.ref a_q_2, .ref a_q_9, .ref a_q_14, .int 0, .int 0, .int 0, .int 0, .int 0])), (a_q_2, .inr (5, [.ref (u_6 0), .ref (u_6 1), .int 0, .int 2, .int 0, .int 0])), ((u_6 0), .inl (g 0, 200, .inl (fun _ => 0))), ((u_6 1), .inl (g 0, 6, .inl (fun _ => 0))), (a_q_9, .inl (g 0, 200, .inl (fun _ => 0))), (a_q_14, .inl (g 0, 200, .inl (fun _ => 0)))] := hD
  refine lv_aload_n hx hb dX4_init_38 rfl (lv_at hl 0 rfl) ?_
  refine lv_iconst (v := 0) hx hb dX4_init_39 (by decide) ?_
  refine va_put (D := (dC, dI)) (ci := 6) (v := .int 0) (ty := .int) (C := RX4) (T := TX4) (N := 8) hx hb hts hiX4 tyX4 tyX4_ok nmX4 hown hK hP hD hS 0 rfl rfl 4 (by decide) hf29 (fun _ h9 => h9) rfl (by decide +kernel) rfl rfl (Nat.le_of_ble_eq_true rfl) dX4_init_40 (fun H_21 L_22 hP hD hS => ?_)
  have hP : va_P (dC, dI) vwCl [(a_this_, .inr (6, [.ref a_q_2, .ref a_q_9, .ref a_q_14, .int 0, .int 0, .int 0, .int 0, .int 0])), (a_q_2, .inr (5, [.ref (u_6 0), .ref (u_6 1), .int 0, .int 2, .int 0, .int 0])), ((u_6 0), .inl (g 0, 200, .inl (fun _ => 0))), ((u_6 1), .inl (g 0, 6, .inl (fun _ => 0))), (a_q_9, .inl (g 0, 200, .inl (fun _ => 0))), (a_q_14, .inl (g 0, 200, .inl (fun _ => 0)))] H_21 := hP
  have hD : va_D A [(a_this_, .inr (6, [.ref a_q_2, .ref a_q_9, .ref a_q_14, .int 0, .int 0, .int 0, .int 0, .int 0])), (a_q_2, .inr (5, [.ref (u_6 0), .ref (u_6 1), .int 0, .int 2, .int 0, .int 0])), ((u_6 0), .inl (g 0, 200, .inl (fun _ => 0))), ((u_6 1), .inl (g 0, 6, .inl (fun _ => 0))), (a_q_9, .inl (g 0, 200, .inl (fun _ => 0))), (a_q_14, .inl (g 0, 200, .inl (fun _ => 0)))] := hD
  refine lv_aload_n hx hb dX4_init_43 rfl (lv_at hl 0 rfl) ?_
  refine lv_iconst (v := 0) hx hb dX4_init_44 (by decide) ?_
  refine va_put (D := (dC, dI)) (ci := 6) (v := .int 0) (ty := .int) (C := RX4) (T := TX4) (N := 8) hx hb hts hiX4 tyX4 tyX4_ok nmX4 hown hK hP hD hS 0 rfl rfl 5 (by decide) hf32 (fun _ h9 => h9) rfl (by decide +kernel) rfl rfl (Nat.le_of_ble_eq_true rfl) dX4_init_45 (fun H_23 L_24 hP hD hS => ?_)
  have hP : va_P (dC, dI) vwCl [(a_this_, .inr (6, [.ref a_q_2, .ref a_q_9, .ref a_q_14, .int 0, .int 0, .int 0, .int 0, .int 0])), (a_q_2, .inr (5, [.ref (u_6 0), .ref (u_6 1), .int 0, .int 2, .int 0, .int 0])), ((u_6 0), .inl (g 0, 200, .inl (fun _ => 0))), ((u_6 1), .inl (g 0, 6, .inl (fun _ => 0))), (a_q_9, .inl (g 0, 200, .inl (fun _ => 0))), (a_q_14, .inl (g 0, 200, .inl (fun _ => 0)))] H_23 := hP
  have hD : va_D A [(a_this_, .inr (6, [.ref a_q_2, .ref a_q_9, .ref a_q_14, .int 0, .int 0, .int 0, .int 0, .int 0])), (a_q_2, .inr (5, [.ref (u_6 0), .ref (u_6 1), .int 0, .int 2, .int 0, .int 0])), ((u_6 0), .inl (g 0, 200, .inl (fun _ => 0))), ((u_6 1), .inl (g 0, 6, .inl (fun _ => 0))), (a_q_9, .inl (g 0, 200, .inl (fun _ => 0))), (a_q_14, .inl (g 0, 200, .inl (fun _ => 0)))] := hD
  refine lv_aload_n hx hb dX4_init_48 rfl (lv_at hl 0 rfl) ?_
  refine lv_iconst (v := 0) hx hb dX4_init_49 (by decide) ?_
  refine va_put (D := (dC, dI)) (ci := 6) (v := .int 0) (ty := .int) (C := RX4) (T := TX4) (N := 8) hx hb hts hiX4 tyX4 tyX4_ok nmX4 hown hK hP hD hS 0 rfl rfl 6 (by decide) hf35 (fun _ h9 => h9) rfl (by decide +kernel) rfl rfl (Nat.le_of_ble_eq_true rfl) dX4_init_50 (fun H_25 L_26 hP hD hS => ?_)
  have hP : va_P (dC, dI) vwCl [(a_this_, .inr (6, [.ref a_q_2, .ref a_q_9, .ref a_q_14, .int 0, .int 0, .int 0, .int 0, .int 0])), (a_q_2, .inr (5, [.ref (u_6 0), .ref (u_6 1), .int 0, .int 2, .int 0, .int 0])), ((u_6 0), .inl (g 0, 200, .inl (fun _ => 0))), ((u_6 1), .inl (g 0, 6, .inl (fun _ => 0))), (a_q_9, .inl (g 0, 200, .inl (fun _ => 0))), (a_q_14, .inl (g 0, 200, .inl (fun _ => 0)))] H_25 := hP
  have hD : va_D A [(a_this_, .inr (6, [.ref a_q_2, .ref a_q_9, .ref a_q_14, .int 0, .int 0, .int 0, .int 0, .int 0])), (a_q_2, .inr (5, [.ref (u_6 0), .ref (u_6 1), .int 0, .int 2, .int 0, .int 0])), ((u_6 0), .inl (g 0, 200, .inl (fun _ => 0))), ((u_6 1), .inl (g 0, 6, .inl (fun _ => 0))), (a_q_9, .inl (g 0, 200, .inl (fun _ => 0))), (a_q_14, .inl (g 0, 200, .inl (fun _ => 0)))] := hD
  refine lv_aload_n hx hb dX4_init_53 rfl (lv_at hl 0 rfl) ?_
  refine lv_iconst (v := 0) hx hb dX4_init_54 (by decide) ?_
  refine va_put (D := (dC, dI)) (ci := 6) (v := .int 0) (ty := .int) (C := RX4) (T := TX4) (N := 8) hx hb hts hiX4 tyX4 tyX4_ok nmX4 hown hK hP hD hS 0 rfl rfl 7 (by decide) hf38 (fun _ h9 => h9) rfl (by decide +kernel) rfl rfl (Nat.le_of_ble_eq_true rfl) dX4_init_55 (fun H_27 L_28 hP hD hS => ?_)
  have hP : va_P (dC, dI) vwCl [(a_this_, .inr (6, [.ref a_q_2, .ref a_q_9, .ref a_q_14, .int 0, .int 0, .int 0, .int 0, .int 0])), (a_q_2, .inr (5, [.ref (u_6 0), .ref (u_6 1), .int 0, .int 2, .int 0, .int 0])), ((u_6 0), .inl (g 0, 200, .inl (fun _ => 0))), ((u_6 1), .inl (g 0, 6, .inl (fun _ => 0))), (a_q_9, .inl (g 0, 200, .inl (fun _ => 0))), (a_q_14, .inl (g 0, 200, .inl (fun _ => 0)))] H_27 := hP
  have hD : va_D A [(a_this_, .inr (6, [.ref a_q_2, .ref a_q_9, .ref a_q_14, .int 0, .int 0, .int 0, .int 0, .int 0])), (a_q_2, .inr (5, [.ref (u_6 0), .ref (u_6 1), .int 0, .int 2, .int 0, .int 0])), ((u_6 0), .inl (g 0, 200, .inl (fun _ => 0))), ((u_6 1), .inl (g 0, 6, .inl (fun _ => 0))), (a_q_9, .inl (g 0, 200, .inl (fun _ => 0))), (a_q_14, .inl (g 0, 200, .inl (fun _ => 0)))] := hD
  refine W.widen (k := 5) (n := 612) (by omega) (by omega) ?_
  exact W.vret hx hb hr (fun t ht hW => ⟨⟨((fun j => ([a_q_2, (u_6 0), (u_6 1), a_q_9, a_q_14] : List Nat).getD j 0), ()), rfl, hw, ⟨P_at ht hP, hD⟩⟩, hS.F ht⟩) hS.2.2 dX4_init_58
theorem dX2_init_0 : decode cX2_init 0 = .ok (.aload_n 0, 1) := by decide +kernel
theorem dX2_init_1 : decode cX2_init 1 = .ok (.invokespecial 3, 3) := by decide +kernel
theorem dX2_init_4 : decode cX2_init 4 = .ok (.aload_n 0, 1) := by decide +kernel
theorem dX2_init_5 : decode cX2_init 5 = .ok (.new 9, 3) := by decide +kernel
theorem dX2_init_8 : decode cX2_init 8 = .ok (.dup, 1) := by decide +kernel
theorem dX2_init_9 : decode cX2_init 9 = .ok (.invokespecial 11, 3) := by decide +kernel
theorem dX2_init_12 : decode cX2_init 12 = .ok (.putfield 12, 3) := by decide +kernel
theorem dX2_init_15 : decode cX2_init 15 = .ok (.aload_n 0, 1) := by decide +kernel
theorem dX2_init_16 : decode cX2_init 16 = .ok (.new 18, 3) := by decide +kernel
theorem dX2_init_19 : decode cX2_init 19 = .ok (.dup, 1) := by decide +kernel
theorem dX2_init_20 : decode cX2_init 20 = .ok (.invokespecial 20, 3) := by decide +kernel
theorem dX2_init_23 : decode cX2_init 23 = .ok (.putfield 21, 3) := by decide +kernel
theorem dX2_init_26 : decode cX2_init 26 = .ok (.aload_n 0, 1) := by decide +kernel
theorem dX2_init_27 : decode cX2_init 27 = .ok (.bipush 6, 2) := by decide +kernel
theorem dX2_init_29 : decode cX2_init 29 = .ok (.newarray .int, 2) := by decide +kernel
theorem dX2_init_31 : decode cX2_init 31 = .ok (.putfield 25, 3) := by decide +kernel
theorem dX2_init_34 : decode cX2_init 34 = .ok (.aload_n 0, 1) := by decide +kernel
theorem dX2_init_35 : decode cX2_init 35 = .ok (.bipush 6, 2) := by decide +kernel
theorem dX2_init_37 : decode cX2_init 37 = .ok (.newarray .int, 2) := by decide +kernel
theorem dX2_init_39 : decode cX2_init 39 = .ok (.putfield 29, 3) := by decide +kernel
theorem dX2_init_42 : decode cX2_init 42 = .ok (.aload_n 0, 1) := by decide +kernel
theorem dX2_init_43 : decode cX2_init 43 = .ok (.iconst 0, 1) := by decide +kernel
theorem dX2_init_44 : decode cX2_init 44 = .ok (.putfield 32, 3) := by decide +kernel
theorem dX2_init_47 : decode cX2_init 47 = .ok (.aload_n 0, 1) := by decide +kernel
theorem dX2_init_48 : decode cX2_init 48 = .ok (.new 36, 3) := by decide +kernel
theorem dX2_init_51 : decode cX2_init 51 = .ok (.dup, 1) := by decide +kernel
theorem dX2_init_52 : decode cX2_init 52 = .ok (.invokespecial 38, 3) := by decide +kernel
theorem dX2_init_55 : decode cX2_init 55 = .ok (.putfield 39, 3) := by decide +kernel
theorem dX2_init_58 : decode cX2_init 58 = .ok (.aload_n 0, 1) := by decide +kernel
theorem dX2_init_59 : decode cX2_init 59 = .ok (.new 36, 3) := by decide +kernel
theorem dX2_init_62 : decode cX2_init 62 = .ok (.dup, 1) := by decide +kernel
theorem dX2_init_63 : decode cX2_init 63 = .ok (.invokespecial 38, 3) := by decide +kernel
theorem dX2_init_66 : decode cX2_init 66 = .ok (.putfield 43, 3) := by decide +kernel
theorem dX2_init_69 : decode cX2_init 69 = .ok (.aload_n 0, 1) := by decide +kernel
theorem dX2_init_70 : decode cX2_init 70 = .ok (.new 36, 3) := by decide +kernel
theorem dX2_init_73 : decode cX2_init 73 = .ok (.dup, 1) := by decide +kernel
theorem dX2_init_74 : decode cX2_init 74 = .ok (.invokespecial 38, 3) := by decide +kernel
theorem dX2_init_77 : decode cX2_init 77 = .ok (.putfield 46, 3) := by decide +kernel
theorem dX2_init_80 : decode cX2_init 80 = .ok (.aload_n 0, 1) := by decide +kernel
theorem dX2_init_81 : decode cX2_init 81 = .ok (.iconst 0, 1) := by decide +kernel
theorem dX2_init_82 : decode cX2_init 82 = .ok (.putfield 49, 3) := by decide +kernel
theorem dX2_init_85 : decode cX2_init 85 = .ok (.aload_n 0, 1) := by decide +kernel
theorem dX2_init_86 : decode cX2_init 86 = .ok (.iconst 0, 1) := by decide +kernel
theorem dX2_init_87 : decode cX2_init 87 = .ok (.putfield 52, 3) := by decide +kernel
theorem dX2_init_90 : decode cX2_init 90 = .ok (.aload_n 0, 1) := by decide +kernel
theorem dX2_init_91 : decode cX2_init 91 = .ok (.iconst 0, 1) := by decide +kernel
theorem dX2_init_92 : decode cX2_init 92 = .ok (.putfield 55, 3) := by decide +kernel
theorem dX2_init_95 : decode cX2_init 95 = .ok (.aload_n 0, 1) := by decide +kernel
theorem dX2_init_96 : decode cX2_init 96 = .ok (.iconst 0, 1) := by decide +kernel
theorem dX2_init_97 : decode cX2_init 97 = .ok (.putfield 58, 3) := by decide +kernel
theorem dX2_init_100 : decode cX2_init 100 = .ok (.aload_n 0, 1) := by decide +kernel
theorem dX2_init_101 : decode cX2_init 101 = .ok (.iconst 0, 1) := by decide +kernel
theorem dX2_init_102 : decode cX2_init 102 = .ok (.putfield 61, 3) := by decide +kernel
theorem dX2_init_105 : decode cX2_init 105 = .ok (.aload_n 0, 1) := by decide +kernel
theorem dX2_init_106 : decode cX2_init 106 = .ok (.iconst 0, 1) := by decide +kernel
theorem dX2_init_107 : decode cX2_init 107 = .ok (.putfield 64, 3) := by decide +kernel
theorem dX2_init_110 : decode cX2_init 110 = .ok (.aload_n 0, 1) := by decide +kernel
theorem dX2_init_111 : decode cX2_init 111 = .ok (.iconst 0, 1) := by decide +kernel
theorem dX2_init_112 : decode cX2_init 112 = .ok (.putfield 67, 3) := by decide +kernel
theorem dX2_init_115 : decode cX2_init 115 = .ok (.return_, 1) := by decide +kernel

set_option maxHeartbeats 8000000 in
set_option maxRecDepth 100000 in
theorem c_X2_init (l : Launch) (dC : Nat → ClassId) (dI : Nat → Nat → Nat) (g : Nat → ClassId) (a_this_ : Nat) (Q : Prop) (hw : wp_X2_init Q) (sz : Nat) : Met l yX2_init wqX2_init ({ frames := 2, cells := 20, slots := 1842, locals := 32 }) (va_Pc [.ref a_this_] (PG (dC, dI) g [(a_this_, .inr (4, [.null, .null, .null, .null, .int 0, .null, .null, .null, .int 0, .int 0, .int 0, .int 0, .int 0, .int 0, .int 0]))] sz)) (va_Qv (fun (u : (Nat → Nat) × Unit) => Q) (fun (u : (Nat → Nat) × Unit) t9 => va_P (dC, dI) vwCl (sh_X2 a_this_ u.1 g) t9.heap ∧ va_D (va_A [(a_this_, .inr (4, [.null, .null, .null, .null, .int 0, .null, .null, .null, .int 0, .int 0, .int 0, .int 0, .int 0, .int 0, .int 0]))] sz) (sh_X2 a_this_ u.1 g)) (va_A [(a_this_, .inr (4, [.null, .null, .null, .null, .int 0, .null, .null, .null, .int 0, .int 0, .int 0, .int 0, .int 0, .int 0, .int 0]))] sz)) 20 1842 (va_A [(a_this_, .inr (4, [.null, .null, .null, .null, .int 0, .null, .null, .null, .int 0, .int 0, .int 0, .int 0, .int 0, .int 0, .int 0]))] sz) := by
  refine Met.ofW (cc := cX2_init) (maxL := 1) (ret := none) (by decide) rfl ?_
  intro p e s m args below meth c s₁ B hml hv
  obtain ⟨rfl, hsz, hP, hK, hD0, hG⟩ := hv
  have hx := B.exec
  have hb := B.bytes
  have hr := B.returns
  have hts := atoms_spec (ws := wqX2_init) B.pre
  have hown : s.vm.findClass RX2 = some m.cls := findClass_of_methodNamed B.named
  have hlocks := B.notSynchronized
  subst hsz
  have hD := hD0.self (sz := s.heap.size)
  generalize hAe : va_A [(a_this_, .inr (4, [.null, .null, .null, .null, .int 0, .null, .null, .null, .int 0, .int 0, .int 0, .int 0, .int 0, .int 0, .int 0]))] s.heap.size = A at hD hG ⊢
  have hA : ∀ q : Nat, s.heap.size ≤ q → A q := fun q h => by rw [← hAe]; exact Or.inr h
  have hS : va_S A s.heap s.heap [] := va_S.rf
  have hrc : (headSpec wqX2_init ({ frames := 2, cells := 20, slots := 1842, locals := 32 })).room.cells = 20 := rfl
  have hrs : (headSpec wqX2_init ({ frames := 2, cells := 20, slots := 1842, locals := 32 })).room.slots = 1842 := rfl
  have hin : meth.name = "<init>" := (name_of_methodNamed B.named B.method).1
  have hl := lv_entry ([.ref a_this_]) (n := 1) (Nat.le_of_ble_eq_true rfl)
  rw [lg_entry_eq]
  generalize (lg_sl ([.ref a_this_]) ++ List.replicate (1 - (lg_sl ([.ref a_this_])).length) Slot.unset).toArray = ls at hl ⊢
  have hl : lv_has ls 1 [(0, .ref a_this_)] := hl
  unfold wp_X2_init at hw
  have hml3 := hts (Cond.methodLink RX2 3 objectInit) (aw_l aw_1_233)
  have hoi := hts (Cond.instanceMethod objectInit) (aw_l aw_1_38)
  have hoc := hts (Cond.code objectInit ⟨#[0xb1]⟩ 1 none) (aw_l aw_1_39)
  have hcl9 := hts (Cond.classLink RX2 9 RX6) (aw_l aw_1_234)
  have hinX6 := hts (Cond.instantiable RX6 3) (aw_l aw_1_119)
  have hiniX6 := hts (Cond.initialized RX6) (aw_l aw_1_5)
  have hiX6 : ∀ w ∈ u_ws RX6 TX6 3, w ∈ wqX2_init := fun w h => aw_l (aw_wsX60 w h)
  have himX6_init := hts (Cond.instanceMethod yX6_init) (aw_l aw_1_121)
  have hf12 := hts (Cond.fieldLink RX2 12 "RunmergeOffice$Job" "maker" "LRunmergeOffice$RunMaker;") (aw_l aw_2_0)
  have hiX2 : ∀ w ∈ u_ws RX2 TX2 15, w ∈ wqX2_init := fun w h => aw_l (aw_wsX20 w h)
  have hcl18 := hts (Cond.classLink RX2 18 RX3) (aw_l aw_1_236)
  have hinX3 := hts (Cond.instantiable RX3 6) (aw_l aw_1_169)
  have hiniX3 := hts (Cond.initialized RX3) (aw_l aw_1_8)
  have hiX3 : ∀ w ∈ u_ws RX3 TX3 6, w ∈ wqX2_init := fun w h => aw_l (aw_wsX30 w h)
  have himX3_init := hts (Cond.instanceMethod yX3_init) (aw_l aw_1_171)
  have hf21 := hts (Cond.fieldLink RX2 21 "RunmergeOffice$Job" "pass" "LRunmergeOffice$Pass;") (aw_l aw_2_1)
  have hnaint := hts (Cond.arrayClass .int) (aw_l aw_1_57)
  have hf25 := hts (Cond.fieldLink RX2 25 "RunmergeOffice$Job" "inputs" "[I") (aw_l aw_2_2)
  have hf29 := hts (Cond.fieldLink RX2 29 "RunmergeOffice$Job" "places" "[I") (aw_l aw_2_3)
  have hf32 := hts (Cond.fieldLink RX2 32 "RunmergeOffice$Job" "inputCount" "I") (aw_l aw_2_4)
  have hcl36 := hts (Cond.classLink RX2 36 RX7) (aw_l aw_1_238)
  have hinX7 := hts (Cond.instantiable RX7 5) (aw_l aw_1_135)
  have hiniX7 := hts (Cond.initialized RX7) (aw_l aw_1_6)
  have hiX7 : ∀ w ∈ u_ws RX7 TX7 5, w ∈ wqX2_init := fun w h => aw_l (aw_wsX70 w h)
  have himX7_init := hts (Cond.instanceMethod yX7_init) (aw_l aw_1_137)
  have hf39 := hts (Cond.fieldLink RX2 39 "RunmergeOffice$Job" "now" "LRunmergeOffice$RunRow;") (aw_l aw_2_5)
  have hf43 := hts (Cond.fieldLink RX2 43 "RunmergeOffice$Job" "made" "LRunmergeOffice$RunRow;") (aw_l aw_2_6)
  have hf46 := hts (Cond.fieldLink RX2 46 "RunmergeOffice$Job" "next" "LRunmergeOffice$RunRow;") (aw_l aw_2_7)
  have hf49 := hts (Cond.fieldLink RX2 49 "RunmergeOffice$Job" "target" "I") (aw_l aw_2_8)
  have hf52 := hts (Cond.fieldLink RX2 52 "RunmergeOffice$Job" "passes" "I") (aw_l aw_2_10)
  have hf55 := hts (Cond.fieldLink RX2 55 "RunmergeOffice$Job" "merges" "I") (aw_l aw_2_13)
  have hf58 := hts (Cond.fieldLink RX2 58 "RunmergeOffice$Job" "moves" "I") (aw_l aw_2_16)
  have hf61 := hts (Cond.fieldLink RX2 61 "RunmergeOffice$Job" "movesOfPass" "I") (aw_l aw_2_19)
  have hf64 := hts (Cond.fieldLink RX2 64 "RunmergeOffice$Job" "lostMoves" "I") (aw_l aw_2_20)
  have hf67 := hts (Cond.fieldLink RX2 67 "RunmergeOffice$Job" "timesTorn" "I") (aw_l aw_2_22)
  refine lv_aload_n hx hb dX2_init_0 rfl (lv_at hl 0 rfl) ?_
  refine W.objInit hx hb hown hml3 hoi hoc rfl (by rw [hml]; exact hl.1) rfl dX2_init_1 (Nat.le_of_ble_eq_true rfl) (Nat.le_of_ble_eq_true rfl) ?_
  refine W.eq (g2 := F0 m 4 ls []) rfl ?_
  refine lv_aload_n hx hb dX2_init_4 rfl (lv_at hl 0 rfl) ?_
  refine va_new (ci := 8) (fs := [.null, .null, .int 0]) (C := RX6) (T := TX6) (N := 3) hx hb hts hiX6 tyX6 tyX6_ok hown hcl9 hinX6 hiniX6 hK hP hD hS hA rfl (fun j hj => by rcases (show j = 0 ∨ j = 1 ∨ j = 2 by omega) with rfl | rfl | rfl <;> rfl) (by rw [hrc]; omega) (by rw [hrs]; omega) dX2_init_5 (fun a_q_2 H_3 hP hD hS => ?_)
  obtain ⟨hP, hD⟩ := seg_join [[(a_this_, .inr (4, [.null, .null, .null, .null, .int 0, .null, .null, .null, .int 0, .int 0, .int 0, .int 0, .int 0, .int 0, .int 0]))]] [[(a_q_2, .inr (8, [.null, .null, .int 0]))]] [[(a_this_, .inr (4, [.null, .null, .null, .null, .int 0, .null, .null, .null, .int 0, .int 0, .int 0, .int 0, .int 0, .int 0, .int 0]))], [(a_q_2, .inr (8, [.null, .null, .int 0]))]] 2 [0, 1] rfl rfl (by decide) hP hD
  have hP : va_P (dC, dI) vwCl [(a_this_, .inr (4, [.null, .null, .null, .null, .int 0, .null, .null, .null, .int 0, .int 0, .int 0, .int 0, .int 0, .int 0, .int 0])), (a_q_2, .inr (8, [.null, .null, .int 0]))] H_3 := hP
  have hD : va_D A [(a_this_, .inr (4, [.null, .null, .null, .null, .int 0, .null, .null, .null, .int 0, .int 0, .int 0, .int 0, .int 0, .int 0, .int 0])), (a_q_2, .inr (8, [.null, .null, .int 0]))] := hD
  refine W.widen (k := 1) (n := 3) (by omega) (by omega) ?_
  refine lv_dup hx hb dX2_init_8 rfl ?_
  obtain ⟨hPs, hDs⟩ := seg_call (segs := [[(a_this_, .inr (4, [.null, .null, .null, .null, .int 0, .null, .null, .null, .int 0, .int 0, .int 0, .int 0, .int 0, .int 0, .int 0]))], [(a_q_2, .inr (8, [.null, .null, .int 0]))]]) [[(a_this_, .inr (4, [.null, .null, .null, .null, .int 0, .null, .null, .null, .int 0, .int 0, .int 0, .int 0, .int 0, .int 0, .int 0]))]] [[(a_q_2, .inr (8, [.null, .null, .int 0]))]] 2 [0, 1] rfl rfl (by decide) hP hD
  have hPc : va_P (dC, dI) vwCl [(a_q_2, .inr (8, [.null, .null, .int 0]))] H_3 := P_r hPs
  have hDc : va_D A [(a_q_2, .inr (8, [.null, .null, .int 0]))] := D_r hDs
  have hFc : ∀ q, va_A [(a_q_2, .inr (8, [.null, .null, .int 0]))] H_3.size q → A q := A_all hDc hA hS.1
  refine va_callv (va_runIN (As := []) (rest := [.ref a_q_2, .ref a_this_]) ⟨hx, hb, hml, hown, hts⟩ (c_X6_init l dC dI g (a_this_ := a_q_2) (hw := hw) (sz := H_3.size)) ⟨va_cnB 0 hts (gq0 aw_1_122) rfl rfl rfl (mnl_8 hG) hiniX6 (by decide +kernel) ⟨Nat.le_of_ble_eq_true rfl, Nat.le_of_ble_eq_true rfl⟩, rfl, himX6_init⟩ ⟨PG_blind, PG_call hK hG hS hPc hDc hFc⟩ rfl rfl hl.1 rfl (lv_room (Nat.le_of_ble_eq_true rfl)) dX2_init_9 ⟨by rw [hrc]; omega, by rw [hrs]; omega⟩) hS (fun q _ h => hFc q h) hFc (fun u_5 t_5 H_5 L_5 ht_5 hvm_5 hw_5 hB_5 hz_5 hk_5 hS => ?_)
  obtain ⟨u_6, u_5⟩ := u_5
  have hw := hw_5
  rw [ht_5] at hB_5
  obtain ⟨hP1, hD1⟩ := hB_5
  obtain ⟨hP, hD⟩ := join_r hPs hDs hk_5 hFc hP1 hD1
  obtain ⟨hP, hD⟩ := seg_join [[(a_this_, .inr (4, [.null, .null, .null, .null, .int 0, .null, .null, .null, .int 0, .int 0, .int 0, .int 0, .int 0, .int 0, .int 0]))]] [[(a_q_2, .inr (8, [.ref (u_6 0), .ref (u_6 1), .int 0]))], [((u_6 0), .inl (g 0, 50, .inl (fun _ => 0)))], [((u_6 1), .inl (g 0, 50, .inl (fun _ => 0)))]] [[(a_this_, .inr (4, [.null, .null, .null, .null, .int 0, .null, .null, .null, .int 0, .int 0, .int 0, .int 0, .int 0, .int 0, .int 0]))], [(a_q_2, .inr (8, [.ref (u_6 0), .ref (u_6 1), .int 0]))], [((u_6 0), .inl (g 0, 50, .inl (fun _ => 0)))], [((u_6 1), .inl (g 0, 50, .inl (fun _ => 0)))]] 4 [0, 1, 2, 3] rfl rfl (by decide) hP hD
  have hP : va_P (dC, dI) vwCl [(a_this_, .inr (4, [.null, .null, .null, .null, .int 0, .null, .null, .null, .int 0, .int 0, .int 0, .int 0, .int 0, .int 0, .int 0])), (a_q_2, .inr (8, [.ref (u_6 0), .ref (u_6 1), .int 0])), ((u_6 0), .inl (g 0, 50, .inl (fun _ => 0))), ((u_6 1), .inl (g 0, 50, .inl (fun _ => 0)))] H_5 := hP
  have hD : va_D A [(a_this_, .inr (4, [.null, .null, .null, .null, .int 0, .null, .null, .null, .int 0, .int 0, .int 0, .int 0, .int 0, .int 0, .int 0])), (a_q_2, .inr (8, [.ref (u_6 0), .ref (u_6 1), .int 0])), ((u_6 0), .inl (g 0, 50, .inl (fun _ => 0))), ((u_6 1), .inl (g 0, 50, .inl (fun _ => 0)))] := hD
  refine W.widen (k := 3) (n := 103) (by omega) (by omega) ?_
  refine va_putF (D := (dC, dI)) (ci := 4) (v := .ref a_q_2) (ty := .object "RunmergeOffice$RunMaker") (C := RX2) (T := TX2) (N := 15) hx hb hts hiX2 tyX2 tyX2_ok nmX2 hown hK hP hD hS 0 rfl rfl 0 (by decide) hf12 (fun _ h9 => h9) rfl hin rfl (by decide +kernel) rfl rfl (Nat.le_of_ble_eq_true rfl) dX2_init_12 (fun H_7 L_8 hP hD hS => ?_)
  have hP : va_P (dC, dI) vwCl [(a_this_, .inr (4, [.ref a_q_2, .null, .null, .null, .int 0, .null, .null, .null, .int 0, .int 0, .int 0, .int 0, .int 0, .int 0, .int 0])), (a_q_2, .inr (8, [.ref (u_6 0), .ref (u_6 1), .int 0])), ((u_6 0), .inl (g 0, 50, .inl (fun _ => 0))), ((u_6 1), .inl (g 0, 50, .inl (fun _ => 0)))] H_7 := hP
  have hD : va_D A [(a_this_, .inr (4, [.ref a_q_2, .null, .null, .null, .int 0, .null, .null, .null, .int 0, .int 0, .int 0, .int 0, .int 0, .int 0, .int 0])), (a_q_2, .inr (8, [.ref (u_6 0), .ref (u_6 1), .int 0])), ((u_6 0), .inl (g 0, 50, .inl (fun _ => 0))), ((u_6 1), .inl (g 0, 50, .inl (fun _ => 0)))] := hD
  refine lv_aload_n hx hb dX2_init_15 rfl (lv_at hl 0 rfl) ?_
  refine va_new (ci := 5) (fs := [.null, .null, .int 0, .int 0, .int 0, .int 0]) (C := RX3) (T := TX3) (N := 6) hx hb hts hiX3 tyX3 tyX3_ok hown hcl18 hinX3 hiniX3 hK hP hD hS hA rfl (fun j hj => by rcases (show j = 0 ∨ j = 1 ∨ j = 2 ∨ j = 3 ∨ j = 4 ∨ j = 5 by omega) with rfl | rfl | rfl | rfl | rfl | rfl <;> rfl) (by rw [hrc]; omega) (by rw [hrs]; omega) dX2_init_16 (fun a_q_9 H_10 hP hD hS => ?_)
  obtain ⟨hP, hD⟩ := seg_join [[(a_this_, .inr (4, [.ref a_q_2, .null, .null, .null, .int 0, .null, .null, .null, .int 0, .int 0, .int 0, .int 0, .int 0, .int 0, .int 0]))], [(a_q_2, .inr (8, [.ref (u_6 0), .ref (u_6 1), .int 0]))], [((u_6 0), .inl (g 0, 50, .inl (fun _ => 0)))], [((u_6 1), .inl (g 0, 50, .inl (fun _ => 0)))]] [[(a_q_9, .inr (5, [.null, .null, .int 0, .int 0, .int 0, .int 0]))]] [[(a_this_, .inr (4, [.ref a_q_2, .null, .null, .null, .int 0, .null, .null, .null, .int 0, .int 0, .int 0, .int 0, .int 0, .int 0, .int 0]))], [(a_q_2, .inr (8, [.ref (u_6 0), .ref (u_6 1), .int 0]))], [((u_6 0), .inl (g 0, 50, .inl (fun _ => 0)))], [((u_6 1), .inl (g 0, 50, .inl (fun _ => 0)))], [(a_q_9, .inr (5, [.null, .null, .int 0, .int 0, .int 0, .int 0]))]] 5 [0, 1, 2, 3, 4] rfl rfl (by decide) hP hD
  have hP : va_P (dC, dI) vwCl [(a_this_, .inr (4, [.ref a_q_2, .null, .null, .null, .int 0, .null, .null, .null, .int 0, .int 0, .int 0, .int 0, .int 0, .int 0, .int 0])), (a_q_2, .inr (8, [.ref (u_6 0), .ref (u_6 1), .int 0])), ((u_6 0), .inl (g 0, 50, .inl (fun _ => 0))), ((u_6 1), .inl (g 0, 50, .inl (fun _ => 0))), (a_q_9, .inr (5, [.null, .null, .int 0, .int 0, .int 0, .int 0]))] H_10 := hP
  have hD : va_D A [(a_this_, .inr (4, [.ref a_q_2, .null, .null, .null, .int 0, .null, .null, .null, .int 0, .int 0, .int 0, .int 0, .int 0, .int 0, .int 0])), (a_q_2, .inr (8, [.ref (u_6 0), .ref (u_6 1), .int 0])), ((u_6 0), .inl (g 0, 50, .inl (fun _ => 0))), ((u_6 1), .inl (g 0, 50, .inl (fun _ => 0))), (a_q_9, .inr (5, [.null, .null, .int 0, .int 0, .int 0, .int 0]))] := hD
  refine W.widen (k := 4) (n := 109) (by omega) (by omega) ?_
  refine lv_dup hx hb dX2_init_19 rfl ?_
  obtain ⟨hPs, hDs⟩ := seg_call (segs := [[(a_this_, .inr (4, [.ref a_q_2, .null, .null, .null, .int 0, .null, .null, .null, .int 0, .int 0, .int 0, .int 0, .int 0, .int 0, .int 0]))], [(a_q_2, .inr (8, [.ref (u_6 0), .ref (u_6 1), .int 0]))], [((u_6 0), .inl (g 0, 50, .inl (fun _ => 0)))], [((u_6 1), .inl (g 0, 50, .inl (fun _ => 0)))], [(a_q_9, .inr (5, [.null, .null, .int 0, .int 0, .int 0, .int 0]))]]) [[(a_this_, .inr (4, [.ref a_q_2, .null, .null, .null, .int 0, .null, .null, .null, .int 0, .int 0, .int 0, .int 0, .int 0, .int 0, .int 0]))], [(a_q_2, .inr (8, [.ref (u_6 0), .ref (u_6 1), .int 0]))], [((u_6 0), .inl (g 0, 50, .inl (fun _ => 0)))], [((u_6 1), .inl (g 0, 50, .inl (fun _ => 0)))]] [[(a_q_9, .inr (5, [.null, .null, .int 0, .int 0, .int 0, .int 0]))]] 5 [0, 1, 2, 3, 4] rfl rfl (by decide) hP hD
  have hPc : va_P (dC, dI) vwCl [(a_q_9, .inr (5, [.null, .null, .int 0, .int 0, .int 0, .int 0]))] H_10 := P_r hPs
  have hDc : va_D A [(a_q_9, .inr (5, [.null, .null, .int 0, .int 0, .int 0, .int 0]))] := D_r hDs
  have hFc : ∀ q, va_A [(a_q_9, .inr (5, [.null, .null, .int 0, .int 0, .int 0, .int 0]))] H_10.size q → A q := A_all hDc hA hS.1
  refine va_callv (va_runIN (As := []) (rest := [.ref a_q_9, .ref a_this_]) ⟨hx, hb, hml, hown, hts⟩ (c_X3_init l dC dI g (a_this_ := a_q_9) (hw := hw) (sz := H_10.size)) ⟨va_cnB 0 hts (gq0 aw_1_172) rfl rfl rfl (mnl_9 hG) hiniX3 (by decide +kernel) ⟨Nat.le_of_ble_eq_true rfl, Nat.le_of_ble_eq_true rfl⟩, rfl, himX3_init⟩ ⟨PG_blind, PG_call hK hG hS hPc hDc hFc⟩ rfl rfl hl.1 rfl (lv_room (Nat.le_of_ble_eq_true rfl)) dX2_init_20 ⟨by rw [hrc]; omega, by rw [hrs]; omega⟩) hS (fun q _ h => hFc q h) hFc (fun u_12 t_12 H_12 L_12 ht_12 hvm_12 hw_12 hB_12 hz_12 hk_12 hS => ?_)
  obtain ⟨u_13, u_12⟩ := u_12
  have hw := hw_12
  rw [ht_12] at hB_12
  obtain ⟨hP1, hD1⟩ := hB_12
  obtain ⟨hP, hD⟩ := join_r hPs hDs hk_12 hFc hP1 hD1
  obtain ⟨hP, hD⟩ := seg_join [[(a_this_, .inr (4, [.ref a_q_2, .null, .null, .null, .int 0, .null, .null, .null, .int 0, .int 0, .int 0, .int 0, .int 0, .int 0, .int 0]))], [(a_q_2, .inr (8, [.ref (u_6 0), .ref (u_6 1), .int 0]))], [((u_6 0), .inl (g 0, 50, .inl (fun _ => 0)))], [((u_6 1), .inl (g 0, 50, .inl (fun _ => 0)))]] [[(a_q_9, .inr (5, [.ref (u_13 0), .ref (u_13 1), .int 0, .int 2, .int 0, .int 0]))], [((u_13 0), .inl (g 0, 200, .inl (fun _ => 0)))], [((u_13 1), .inl (g 0, 6, .inl (fun _ => 0)))]] [[(a_this_, .inr (4, [.ref a_q_2, .null, .null, .null, .int 0, .null, .null, .null, .int 0, .int 0, .int 0, .int 0, .int 0, .int 0, .int 0]))], [(a_q_2, .inr (8, [.ref (u_6 0), .ref (u_6 1), .int 0]))], [((u_6 0), .inl (g 0, 50, .inl (fun _ => 0)))], [((u_6 1), .inl (g 0, 50, .inl (fun _ => 0)))], [(a_q_9, .inr (5, [.ref (u_13 0), .ref (u_13 1), .int 0, .int 2, .int 0, .int 0]))], [((u_13 0), .inl (g 0, 200, .inl (fun _ => 0)))], [((u_13 1), .inl (g 0, 6, .inl (fun _ => 0)))]] 7 [0, 1, 2, 3, 4, 5, 6] rfl rfl (by decide) hP hD
  have hP : va_P (dC, dI) vwCl [(a_this_, .inr (4, [.ref a_q_2, .null, .null, .null, .int 0, .null, .null, .null, .int 0, .int 0, .int 0, .int 0, .int 0, .int 0, .int 0])), (a_q_2, .inr (8, [.ref (u_6 0), .ref (u_6 1), .int 0])), ((u_6 0), .inl (g 0, 50, .inl (fun _ => 0))), ((u_6 1), .inl (g 0, 50, .inl (fun _ => 0))), (a_q_9, .inr (5, [.ref (u_13 0), .ref (u_13 1), .int 0, .int 2, .int 0, .int 0])), ((u_13 0), .inl (g 0, 200, .inl (fun _ => 0))), ((u_13 1), .inl (g 0, 6, .inl (fun _ => 0)))] H_12 := hP
  have hD : va_D A [(a_this_, .inr (4, [.ref a_q_2, .null, .null, .null, .int 0, .null, .null, .null, .int 0, .int 0, .int 0, .int 0, .int 0, .int 0, .int 0])), (a_q_2, .inr (8, [.ref (u_6 0), .ref (u_6 1), .int 0])), ((u_6 0), .inl (g 0, 50, .inl (fun _ => 0))), ((u_6 1), .inl (g 0, 50, .inl (fun _ => 0))), (a_q_9, .inr (5, [.ref (u_13 0), .ref (u_13 1), .int 0, .int 2, .int 0, .int 0])), ((u_13 0), .inl (g 0, 200, .inl (fun _ => 0))), ((u_13 1), .inl (g 0, 6, .inl (fun _ => 0)))] := hD
  refine W.widen (k := 6) (n := 315) (by omega) (by omega) ?_
  refine va_putF (D := (dC, dI)) (ci := 4) (v := .ref a_q_9) (ty := .object "RunmergeOffice$Pass") (C := RX2) (T := TX2) (N := 15) hx hb hts hiX2 tyX2 tyX2_ok nmX2 hown hK hP hD hS 0 rfl rfl 1 (by decide) hf21 (fun _ h9 => h9) rfl hin rfl (by decide +kernel) rfl rfl (Nat.le_of_ble_eq_true rfl) dX2_init_23 (fun H_14 L_15 hP hD hS => ?_)
  have hP : va_P (dC, dI) vwCl [(a_this_, .inr (4, [.ref a_q_2, .ref a_q_9, .null, .null, .int 0, .null, .null, .null, .int 0, .int 0, .int 0, .int 0, .int 0, .int 0, .int 0])), (a_q_2, .inr (8, [.ref (u_6 0), .ref (u_6 1), .int 0])), ((u_6 0), .inl (g 0, 50, .inl (fun _ => 0))), ((u_6 1), .inl (g 0, 50, .inl (fun _ => 0))), (a_q_9, .inr (5, [.ref (u_13 0), .ref (u_13 1), .int 0, .int 2, .int 0, .int 0])), ((u_13 0), .inl (g 0, 200, .inl (fun _ => 0))), ((u_13 1), .inl (g 0, 6, .inl (fun _ => 0)))] H_14 := hP
  have hD : va_D A [(a_this_, .inr (4, [.ref a_q_2, .ref a_q_9, .null, .null, .int 0, .null, .null, .null, .int 0, .int 0, .int 0, .int 0, .int 0, .int 0, .int 0])), (a_q_2, .inr (8, [.ref (u_6 0), .ref (u_6 1), .int 0])), ((u_6 0), .inl (g 0, 50, .inl (fun _ => 0))), ((u_6 1), .inl (g 0, 50, .inl (fun _ => 0))), (a_q_9, .inr (5, [.ref (u_13 0), .ref (u_13 1), .int 0, .int 2, .int 0, .int 0])), ((u_13 0), .inl (g 0, 200, .inl (fun _ => 0))), ((u_13 1), .inl (g 0, 6, .inl (fun _ => 0)))] := hD
  refine lv_aload_n hx hb dX2_init_26 rfl (lv_at hl 0 rfl) ?_
  refine lv_bipush (v := 6) hx hb dX2_init_27 (by decide) ?_
  refine va_newa (atype := .int) (a0 := (6, .inl (fun _ => 0))) hx hb hnaint rfl hK hP hD hS hA (fun _ => rfl) (by decide) (N' := 6) (by decide) (Nat.le_of_ble_eq_true rfl) (by rw [hrc]; omega) (by rw [hrs]; omega) dX2_init_29 (fun a_q_16 cA_18 H_17 hK9 hP hD hS => ?_)
  obtain rfl : g 0 = cA_18 := K_one hK9 0 5 rfl rfl
  obtain ⟨hP, hD⟩ := seg_join [[(a_this_, .inr (4, [.ref a_q_2, .ref a_q_9, .null, .null, .int 0, .null, .null, .null, .int 0, .int 0, .int 0, .int 0, .int 0, .int 0, .int 0]))], [(a_q_2, .inr (8, [.ref (u_6 0), .ref (u_6 1), .int 0]))], [((u_6 0), .inl (g 0, 50, .inl (fun _ => 0)))], [((u_6 1), .inl (g 0, 50, .inl (fun _ => 0)))], [(a_q_9, .inr (5, [.ref (u_13 0), .ref (u_13 1), .int 0, .int 2, .int 0, .int 0]))], [((u_13 0), .inl (g 0, 200, .inl (fun _ => 0)))], [((u_13 1), .inl (g 0, 6, .inl (fun _ => 0)))]] [[(a_q_16, .inl (g 0, 6, .inl (fun _ => 0)))]] [[(a_this_, .inr (4, [.ref a_q_2, .ref a_q_9, .null, .null, .int 0, .null, .null, .null, .int 0, .int 0, .int 0, .int 0, .int 0, .int 0, .int 0]))], [(a_q_2, .inr (8, [.ref (u_6 0), .ref (u_6 1), .int 0]))], [((u_6 0), .inl (g 0, 50, .inl (fun _ => 0)))], [((u_6 1), .inl (g 0, 50, .inl (fun _ => 0)))], [(a_q_9, .inr (5, [.ref (u_13 0), .ref (u_13 1), .int 0, .int 2, .int 0, .int 0]))], [((u_13 0), .inl (g 0, 200, .inl (fun _ => 0)))], [((u_13 1), .inl (g 0, 6, .inl (fun _ => 0)))], [(a_q_16, .inl (g 0, 6, .inl (fun _ => 0)))]] 8 [0, 1, 2, 3, 4, 5, 6, 7] rfl rfl (by decide) hP hD
  have hP : va_P (dC, dI) vwCl [(a_this_, .inr (4, [.ref a_q_2, .ref a_q_9, .null, .null, .int 0, .null, .null, .null, .int 0, .int 0, .int 0, .int 0, .int 0, .int 0, .int 0])), (a_q_2, .inr (8, [.ref (u_6 0), .ref (u_6 1), .int 0])), ((u_6 0), .inl (g 0, 50, .inl (fun _ => 0))), ((u_6 1), .inl (g 0, 50, .inl (fun _ => 0))), (a_q_9, .inr (5, [.ref (u_13 0), .ref (u_13 1), .int 0, .int 2, .int 0, .int 0])), ((u_13 0), .inl (g 0, 200, .inl (fun _ => 0))), ((u_13 1), .inl (g 0, 6, .inl (fun _ => 0))), (a_q_16, .inl (g 0, 6, .inl (fun _ => 0)))] H_17 := hP
  have hD : va_D A [(a_this_, .inr (4, [.ref a_q_2, .ref a_q_9, .null, .null, .int 0, .null, .null, .null, .int 0, .int 0, .int 0, .int 0, .int 0, .int 0, .int 0])), (a_q_2, .inr (8, [.ref (u_6 0), .ref (u_6 1), .int 0])), ((u_6 0), .inl (g 0, 50, .inl (fun _ => 0))), ((u_6 1), .inl (g 0, 50, .inl (fun _ => 0))), (a_q_9, .inr (5, [.ref (u_13 0), .ref (u_13 1), .int 0, .int 2, .int 0, .int 0])), ((u_13 0), .inl (g 0, 200, .inl (fun _ => 0))), ((u_13 1), .inl (g 0, 6, .inl (fun _ => 0))), (a_q_16, .inl (g 0, 6, .inl (fun _ => 0)))] := hD
  refine W.widen (k := 7) (n := 321) (by omega) (by omega) ?_
  refine va_putF (D := (dC, dI)) (ci := 4) (v := .ref a_q_16) (ty := .array .int) (C := RX2) (T := TX2) (N := 15) hx hb hts hiX2 tyX2 tyX2_ok nmX2 hown hK hP hD hS 0 rfl rfl 2 (by decide) hf25 (fun _ h9 => h9) rfl hin rfl (by decide +kernel) rfl rfl (Nat.le_of_ble_eq_true rfl) dX2_init_31 (fun H_19 L_20 hP hD hS => ?_)
  have hP : va_P (dC, dI) vwCl [(a_this_, .inr (4, [.ref a_q_2, .ref a_q_9, .ref a_q_16, .null, .int 0, .null, .null, .null, .int 0, .int 0, .int 0, .int 0, .int 0, .int 0, .int 0])), (a_q_2, .inr (8, [.ref (u_6 0), .ref (u_6 1), .int 0])), ((u_6 0), .inl (g 0, 50, .inl (fun _ => 0))), ((u_6 1), .inl (g 0, 50, .inl (fun _ => 0))), (a_q_9, .inr (5, [.ref (u_13 0), .ref (u_13 1), .int 0, .int 2, .int 0, .int 0])), ((u_13 0), .inl (g 0, 200, .inl (fun _ => 0))), ((u_13 1), .inl (g 0, 6, .inl (fun _ => 0))), (a_q_16, .inl (g 0, 6, .inl (fun _ => 0)))] H_19 := hP
  have hD : va_D A [(a_this_, .inr (4, [.ref a_q_2, .ref a_q_9, .ref a_q_16, .null, .int 0, .null, .null, .null, .int 0, .int 0, .int 0, .int 0, .int 0, .int 0, .int 0])), (a_q_2, .inr (8, [.ref (u_6 0), .ref (u_6 1), .int 0])), ((u_6 0), .inl (g 0, 50, .inl (fun _ => 0))), ((u_6 1), .inl (g 0, 50, .inl (fun _ => 0))), (a_q_9, .inr (5, [.ref (u_13 0), .ref (u_13 1), .int 0, .int 2, .int 0, .int 0])), ((u_13 0), .inl (g 0, 200, .inl (fun _ => 0))), ((u_13 1), .inl (g 0, 6, .inl (fun _ => 0))), (a_q_16, .inl (g 0, 6, .inl (fun _ => 0)))] := hD
  refine lv_aload_n hx hb dX2_init_34 rfl (lv_at hl 0 rfl) ?_
  refine lv_bipush (v := 6) hx hb dX2_init_35 (by decide) ?_
  refine va_newa (atype := .int) (a0 := (6, .inl (fun _ => 0))) hx hb hnaint rfl hK hP hD hS hA (fun _ => rfl) (by decide) (N' := 6) (by decide) (Nat.le_of_ble_eq_true rfl) (by rw [hrc]; omega) (by rw [hrs]; omega) dX2_init_37 (fun a_q_21 cA_23 H_22 hK9 hP hD hS => ?_)
  obtain rfl : g 0 = cA_23 := K_one hK9 0 5 rfl rfl
  obtain ⟨hP, hD⟩ := seg_join [[(a_this_, .inr (4, [.ref a_q_2, .ref a_q_9, .ref a_q_16, .null, .int 0, .null, .null, .null, .int 0, .int 0, .int 0, .int 0, .int 0, .int 0, .int 0]))], [(a_q_2, .inr (8, [.ref (u_6 0), .ref (u_6 1), .int 0]))], [((u_6 0), .inl (g 0, 50, .inl (fun _ => 0)))], [((u_6 1), .inl (g 0, 50, .inl (fun _ => 0)))], [(a_q_9, .inr (5, [.ref (u_13 0), .ref (u_13 1), .int 0, .int 2, .int 0, .int 0]))], [((u_13 0), .inl (g 0, 200, .inl (fun _ => 0)))], [((u_13 1), .inl (g 0, 6, .inl (fun _ => 0)))], [(a_q_16, .inl (g 0, 6, .inl (fun _ => 0)))]] [[(a_q_21, .inl (g 0, 6, .inl (fun _ => 0)))]] [[(a_this_, .inr (4, [.ref a_q_2, .ref a_q_9, .ref a_q_16, .null, .int 0, .null, .null, .null, .int 0, .int 0, .int 0, .int 0, .int 0, .int 0, .int 0]))], [(a_q_2, .inr (8, [.ref (u_6 0), .ref (u_6 1), .int 0]))], [((u_6 0), .inl (g 0, 50, .inl (fun _ => 0)))], [((u_6 1), .inl (g 0, 50, .inl (fun _ => 0)))], [(a_q_9, .inr (5, [.ref (u_13 0), .ref (u_13 1), .int 0, .int 2, .int 0, .int 0]))], [((u_13 0), .inl (g 0, 200, .inl (fun _ => 0)))], [((u_13 1), .inl (g 0, 6, .inl (fun _ => 0)))], [(a_q_16, .inl (g 0, 6, .inl (fun _ => 0)))], [(a_q_21, .inl (g 0, 6, .inl (fun _ => 0)))]] 9 [0, 1, 2, 3, 4, 5, 6, 7, 8] rfl rfl (by decide) hP hD
  have hP : va_P (dC, dI) vwCl [(a_this_, .inr (4, [.ref a_q_2, .ref a_q_9, .ref a_q_16, .null, .int 0, .null, .null, .null, .int 0, .int 0, .int 0, .int 0, .int 0, .int 0, .int 0])), (a_q_2, .inr (8, [.ref (u_6 0), .ref (u_6 1), .int 0])), ((u_6 0), .inl (g 0, 50, .inl (fun _ => 0))), ((u_6 1), .inl (g 0, 50, .inl (fun _ => 0))), (a_q_9, .inr (5, [.ref (u_13 0), .ref (u_13 1), .int 0, .int 2, .int 0, .int 0])), ((u_13 0), .inl (g 0, 200, .inl (fun _ => 0))), ((u_13 1), .inl (g 0, 6, .inl (fun _ => 0))), (a_q_16, .inl (g 0, 6, .inl (fun _ => 0))), (a_q_21, .inl (g 0, 6, .inl (fun _ => 0)))] H_22 := hP
  have hD : va_D A [(a_this_, .inr (4, [.ref a_q_2, .ref a_q_9, .ref a_q_16, .null, .int 0, .null, .null, .null, .int 0, .int 0, .int 0, .int 0, .int 0, .int 0, .int 0])), (a_q_2, .inr (8, [.ref (u_6 0), .ref (u_6 1), .int 0])), ((u_6 0), .inl (g 0, 50, .inl (fun _ => 0))), ((u_6 1), .inl (g 0, 50, .inl (fun _ => 0))), (a_q_9, .inr (5, [.ref (u_13 0), .ref (u_13 1), .int 0, .int 2, .int 0, .int 0])), ((u_13 0), .inl (g 0, 200, .inl (fun _ => 0))), ((u_13 1), .inl (g 0, 6, .inl (fun _ => 0))), (a_q_16, .inl (g 0, 6, .inl (fun _ => 0))), (a_q_21, .inl (g 0, 6, .inl (fun _ => 0)))] := hD
  refine W.widen (k := 8) (n := 327) (by omega) (by omega) ?_
  refine va_putF (D := (dC, dI)) (ci := 4) (v := .ref a_q_21) (ty := .array .int) (C := RX2) (T := TX2) (N := 15) hx hb hts hiX2 tyX2 tyX2_ok nmX2 hown hK hP hD hS 0 rfl rfl 3 (by decide) hf29 (fun _ h9 => h9) rfl hin rfl (by decide +kernel) rfl rfl (Nat.le_of_ble_eq_true rfl) dX2_init_39 (fun H_24 L_25 hP hD hS => ?_)
  have hP : va_P (dC, dI) vwCl [(a_this_, .inr (4, [.ref a_q_2, .ref a_q_9, .ref a_q_16, .ref a_q_21, .int 0, .null, .null, .null, .int 0, .int 0, .int 0, .int 0, .int 0, .int 0, .int 0])), (a_q_2, .inr (8, [.ref (u_6 0), .ref (u_6 1), .int 0])), ((u_6 0), .inl (g 0, 50, .inl (fun _ => 0))), ((u_6 1), .inl (g 0, 50, .inl (fun _ => 0))), (a_q_9, .inr (5, [.ref (u_13 0), .ref (u_13 1), .int 0, .int 2, .int 0, .int 0])), ((u_13 0), .inl (g 0, 200, .inl (fun _ => 0))), ((u_13 1), .inl (g 0, 6, .inl (fun _ => 0))), (a_q_16, .inl (g 0, 6, .inl (fun _ => 0))), (a_q_21, .inl (g 0, 6, .inl (fun _ => 0)))] H_24 := hP
  have hD : va_D A [(a_this_, .inr (4, [.ref a_q_2, .ref a_q_9, .ref a_q_16, .ref a_q_21, .int 0, .null, .null, .null, .int 0, .int 0, .int 0, .int 0, .int 0, .int 0, .int 0])), (a_q_2, .inr (8, [.ref (u_6 0), .ref (u_6 1), .int 0])), ((u_6 0), .inl (g 0, 50, .inl (fun _ => 0))), ((u_6 1), .inl (g 0, 50, .inl (fun _ => 0))), (a_q_9, .inr (5, [.ref (u_13 0), .ref (u_13 1), .int 0, .int 2, .int 0, .int 0])), ((u_13 0), .inl (g 0, 200, .inl (fun _ => 0))), ((u_13 1), .inl (g 0, 6, .inl (fun _ => 0))), (a_q_16, .inl (g 0, 6, .inl (fun _ => 0))), (a_q_21, .inl (g 0, 6, .inl (fun _ => 0)))] := hD
  refine lv_aload_n hx hb dX2_init_42 rfl (lv_at hl 0 rfl) ?_
  refine lv_iconst (v := 0) hx hb dX2_init_43 (by decide) ?_
  refine va_put (D := (dC, dI)) (ci := 4) (v := .int 0) (ty := .int) (C := RX2) (T := TX2) (N := 15) hx hb hts hiX2 tyX2 tyX2_ok nmX2 hown hK hP hD hS 0 rfl rfl 4 (by decide) hf32 (fun _ h9 => h9) rfl (by decide +kernel) rfl rfl (Nat.le_of_ble_eq_true rfl) dX2_init_44 (fun H_26 L_27 hP hD hS => ?_)
  have hP : va_P (dC, dI) vwCl [(a_this_, .inr (4, [.ref a_q_2, .ref a_q_9, .ref a_q_16, .ref a_q_21, .int 0, .null, .null, .null, .int 0, .int 0, .int 0, .int 0, .int 0, .int 0, .int 0])), (a_q_2, .inr (8, [.ref (u_6 0), .ref (u_6 1), .int 0])), ((u_6 0), .inl (g 0, 50, .inl (fun _ => 0))), ((u_6 1), .inl (g 0, 50, .inl (fun _ => 0))), (a_q_9, .inr (5, [.ref (u_13 0), .ref (u_13 1), .int 0, .int 2, .int 0, .int 0])), ((u_13 0), .inl (g 0, 200, .inl (fun _ => 0))), ((u_13 1), .inl (g 0, 6, .inl (fun _ => 0))), (a_q_16, .inl (g 0, 6, .inl (fun _ => 0))), (a_q_21, .inl (g 0, 6, .inl (fun _ => 0)))] H_26 := hP
  have hD : va_D A [(a_this_, .inr (4, [.ref a_q_2, .ref a_q_9, .ref a_q_16, .ref a_q_21, .int 0, .null, .null, .null, .int 0, .int 0, .int 0, .int 0, .int 0, .int 0, .int 0])), (a_q_2, .inr (8, [.ref (u_6 0), .ref (u_6 1), .int 0])), ((u_6 0), .inl (g 0, 50, .inl (fun _ => 0))), ((u_6 1), .inl (g 0, 50, .inl (fun _ => 0))), (a_q_9, .inr (5, [.ref (u_13 0), .ref (u_13 1), .int 0, .int 2, .int 0, .int 0])), ((u_13 0), .inl (g 0, 200, .inl (fun _ => 0))), ((u_13 1), .inl (g 0, 6, .inl (fun _ => 0))), (a_q_16, .inl (g 0, 6, .inl (fun _ => 0))), (a_q_21, .inl (g 0, 6, .inl (fun _ => 0)))] := hD
  refine lv_aload_n hx hb dX2_init_47 rfl (lv_at hl 0 rfl) ?_
  refine va_new (ci := 9) (fs := [.null, .null, .null, .int 0, .int 0]) (C := RX7) (T := TX7) (N := 5) hx hb hts hiX7 tyX7 tyX7_ok hown hcl36 hinX7 hiniX7 hK hP hD hS hA rfl (fun j hj => by rcases (show j = 0 ∨ j = 1 ∨ j = 2 ∨ j = 3 ∨ j = 4 by omega) with rfl | rfl | rfl | rfl | rfl <;> rfl) (by rw [hrc]; omega) (by rw [hrs]; omega) dX2_init_48 (fun a_q_28 H_29 hP hD hS => ?_)
  obtain ⟨hP, hD⟩ := seg_join [[(a_this_, .inr (4, [.ref a_q_2, .ref a_q_9, .ref a_q_16, .ref a_q_21, .int 0, .null, .null, .null, .int 0, .int 0, .int 0, .int 0, .int 0, .int 0, .int 0]))], [(a_q_2, .inr (8, [.ref (u_6 0), .ref (u_6 1), .int 0]))], [((u_6 0), .inl (g 0, 50, .inl (fun _ => 0)))], [((u_6 1), .inl (g 0, 50, .inl (fun _ => 0)))], [(a_q_9, .inr (5, [.ref (u_13 0), .ref (u_13 1), .int 0, .int 2, .int 0, .int 0]))], [((u_13 0), .inl (g 0, 200, .inl (fun _ => 0)))], [((u_13 1), .inl (g 0, 6, .inl (fun _ => 0)))], [(a_q_16, .inl (g 0, 6, .inl (fun _ => 0)))], [(a_q_21, .inl (g 0, 6, .inl (fun _ => 0)))]] [[(a_q_28, .inr (9, [.null, .null, .null, .int 0, .int 0]))]] [[(a_this_, .inr (4, [.ref a_q_2, .ref a_q_9, .ref a_q_16, .ref a_q_21, .int 0, .null, .null, .null, .int 0, .int 0, .int 0, .int 0, .int 0, .int 0, .int 0]))], [(a_q_2, .inr (8, [.ref (u_6 0), .ref (u_6 1), .int 0]))], [((u_6 0), .inl (g 0, 50, .inl (fun _ => 0)))], [((u_6 1), .inl (g 0, 50, .inl (fun _ => 0)))], [(a_q_9, .inr (5, [.ref (u_13 0), .ref (u_13 1), .int 0, .int 2, .int 0, .int 0]))], [((u_13 0), .inl (g 0, 200, .inl (fun _ => 0)))], [((u_13 1), .inl (g 0, 6, .inl (fun _ => 0)))], [(a_q_16, .inl (g 0, 6, .inl (fun _ => 0)))], [(a_q_21, .inl (g 0, 6, .inl (fun _ => 0)))], [(a_q_28, .inr (9, [.null, .null, .null, .int 0, .int 0]))]] 10 [0, 1, 2, 3, 4, 5, 6, 7, 8, 9] rfl rfl (by decide) hP hD
  have hP : va_P (dC, dI) vwCl [(a_this_, .inr (4, [.ref a_q_2, .ref a_q_9, .ref a_q_16, .ref a_q_21, .int 0, .null, .null, .null, .int 0, .int 0, .int 0, .int 0, .int 0, .int 0, .int 0])), (a_q_2, .inr (8, [.ref (u_6 0), .ref (u_6 1), .int 0])), ((u_6 0), .inl (g 0, 50, .inl (fun _ => 0))), ((u_6 1), .inl (g 0, 50, .inl (fun _ => 0))), (a_q_9, .inr (5, [.ref (u_13 0), .ref (u_13 1), .int 0, .int 2, .int 0, .int 0])), ((u_13 0), .inl (g 0, 200, .inl (fun _ => 0))), ((u_13 1), .inl (g 0, 6, .inl (fun _ => 0))), (a_q_16, .inl (g 0, 6, .inl (fun _ => 0))), (a_q_21, .inl (g 0, 6, .inl (fun _ => 0))), (a_q_28, .inr (9, [.null, .null, .null, .int 0, .int 0]))] H_29 := hP
  have hD : va_D A [(a_this_, .inr (4, [.ref a_q_2, .ref a_q_9, .ref a_q_16, .ref a_q_21, .int 0, .null, .null, .null, .int 0, .int 0, .int 0, .int 0, .int 0, .int 0, .int 0])), (a_q_2, .inr (8, [.ref (u_6 0), .ref (u_6 1), .int 0])), ((u_6 0), .inl (g 0, 50, .inl (fun _ => 0))), ((u_6 1), .inl (g 0, 50, .inl (fun _ => 0))), (a_q_9, .inr (5, [.ref (u_13 0), .ref (u_13 1), .int 0, .int 2, .int 0, .int 0])), ((u_13 0), .inl (g 0, 200, .inl (fun _ => 0))), ((u_13 1), .inl (g 0, 6, .inl (fun _ => 0))), (a_q_16, .inl (g 0, 6, .inl (fun _ => 0))), (a_q_21, .inl (g 0, 6, .inl (fun _ => 0))), (a_q_28, .inr (9, [.null, .null, .null, .int 0, .int 0]))] := hD
  refine W.widen (k := 9) (n := 332) (by omega) (by omega) ?_
  refine lv_dup hx hb dX2_init_51 rfl ?_
  obtain ⟨hPs, hDs⟩ := seg_call (segs := [[(a_this_, .inr (4, [.ref a_q_2, .ref a_q_9, .ref a_q_16, .ref a_q_21, .int 0, .null, .null, .null, .int 0, .int 0, .int 0, .int 0, .int 0, .int 0, .int 0]))], [(a_q_2, .inr (8, [.ref (u_6 0), .ref (u_6 1), .int 0]))], [((u_6 0), .inl (g 0, 50, .inl (fun _ => 0)))], [((u_6 1), .inl (g 0, 50, .inl (fun _ => 0)))], [(a_q_9, .inr (5, [.ref (u_13 0), .ref (u_13 1), .int 0, .int 2, .int 0, .int 0]))], [((u_13 0), .inl (g 0, 200, .inl (fun _ => 0)))], [((u_13 1), .inl (g 0, 6, .inl (fun _ => 0)))], [(a_q_16, .inl (g 0, 6, .inl (fun _ => 0)))], [(a_q_21, .inl (g 0, 6, .inl (fun _ => 0)))], [(a_q_28, .inr (9, [.null, .null, .null, .int 0, .int 0]))]]) [[(a_this_, .inr (4, [.ref a_q_2, .ref a_q_9, .ref a_q_16, .ref a_q_21, .int 0, .null, .null, .null, .int 0, .int 0, .int 0, .int 0, .int 0, .int 0, .int 0]))], [(a_q_2, .inr (8, [.ref (u_6 0), .ref (u_6 1), .int 0]))], [((u_6 0), .inl (g 0, 50, .inl (fun _ => 0)))], [((u_6 1), .inl (g 0, 50, .inl (fun _ => 0)))], [(a_q_9, .inr (5, [.ref (u_13 0), .ref (u_13 1), .int 0, .int 2, .int 0, .int 0]))], [((u_13 0), .inl (g 0, 200, .inl (fun _ => 0)))], [((u_13 1), .inl (g 0, 6, .inl (fun _ => 0)))], [(a_q_16, .inl (g 0, 6, .inl (fun _ => 0)))], [(a_q_21, .inl (g 0, 6, .inl (fun _ => 0)))]] [[(a_q_28, .inr (9, [.null, .null, .null, .int 0, .int 0]))]] 10 [0, 1, 2, 3, 4, 5, 6, 7, 8, 9] rfl rfl (by decide) hP hD
  have hPc : va_P (dC, dI) vwCl [(a_q_28, .inr (9, [.null, .null, .null, .int 0, .int 0]))] H_29 := P_r hPs
  have hDc : va_D A [(a_q_28, .inr (9, [.null, .null, .null, .int 0, .int 0]))] := D_r hDs
  have hFc : ∀ q, va_A [(a_q_28, .inr (9, [.null, .null, .null, .int 0, .int 0]))] H_29.size q → A q := A_all hDc hA hS.1
  refine va_callv (va_runIN (As := []) (rest := [.ref a_q_28, .ref a_this_]) ⟨hx, hb, hml, hown, hts⟩ (c_X7_init l dC dI g (a_this_ := a_q_28) (hw := hw) (sz := H_29.size)) ⟨va_cnB 0 hts (gq0 aw_1_138) rfl rfl rfl (mnl_10 hG) hiniX7 (by decide +kernel) ⟨Nat.le_of_ble_eq_true rfl, Nat.le_of_ble_eq_true rfl⟩, rfl, himX7_init⟩ ⟨PG_blind, PG_call hK hG hS hPc hDc hFc⟩ rfl rfl hl.1 rfl (lv_room (Nat.le_of_ble_eq_true rfl)) dX2_init_52 ⟨by rw [hrc]; omega, by rw [hrs]; omega⟩) hS (fun q _ h => hFc q h) hFc (fun u_31 t_31 H_31 L_31 ht_31 hvm_31 hw_31 hB_31 hz_31 hk_31 hS => ?_)
  obtain ⟨u_32, u_31⟩ := u_31
  have hw := hw_31
  rw [ht_31] at hB_31
  obtain ⟨hP1, hD1⟩ := hB_31
  obtain ⟨hP, hD⟩ := join_r hPs hDs hk_31 hFc hP1 hD1
  obtain ⟨hP, hD⟩ := seg_join [[(a_this_, .inr (4, [.ref a_q_2, .ref a_q_9, .ref a_q_16, .ref a_q_21, .int 0, .null, .null, .null, .int 0, .int 0, .int 0, .int 0, .int 0, .int 0, .int 0]))], [(a_q_2, .inr (8, [.ref (u_6 0), .ref (u_6 1), .int 0]))], [((u_6 0), .inl (g 0, 50, .inl (fun _ => 0)))], [((u_6 1), .inl (g 0, 50, .inl (fun _ => 0)))], [(a_q_9, .inr (5, [.ref (u_13 0), .ref (u_13 1), .int 0, .int 2, .int 0, .int 0]))], [((u_13 0), .inl (g 0, 200, .inl (fun _ => 0)))], [((u_13 1), .inl (g 0, 6, .inl (fun _ => 0)))], [(a_q_16, .inl (g 0, 6, .inl (fun _ => 0)))], [(a_q_21, .inl (g 0, 6, .inl (fun _ => 0)))]] [[(a_q_28, .inr (9, [.ref (u_32 0), .ref (u_32 1), .ref (u_32 2), .int 0, .int 0]))], [((u_32 0), .inl (g 0, 100, .inl (fun _ => 0)))], [((u_32 1), .inl (g 0, 200, .inl (fun _ => 0)))], [((u_32 2), .inl (g 0, 200, .inl (fun _ => 0)))]] [[(a_this_, .inr (4, [.ref a_q_2, .ref a_q_9, .ref a_q_16, .ref a_q_21, .int 0, .null, .null, .null, .int 0, .int 0, .int 0, .int 0, .int 0, .int 0, .int 0]))], [(a_q_2, .inr (8, [.ref (u_6 0), .ref (u_6 1), .int 0]))], [((u_6 0), .inl (g 0, 50, .inl (fun _ => 0)))], [((u_6 1), .inl (g 0, 50, .inl (fun _ => 0)))], [(a_q_9, .inr (5, [.ref (u_13 0), .ref (u_13 1), .int 0, .int 2, .int 0, .int 0]))], [((u_13 0), .inl (g 0, 200, .inl (fun _ => 0)))], [((u_13 1), .inl (g 0, 6, .inl (fun _ => 0)))], [(a_q_16, .inl (g 0, 6, .inl (fun _ => 0)))], [(a_q_21, .inl (g 0, 6, .inl (fun _ => 0)))], [(a_q_28, .inr (9, [.ref (u_32 0), .ref (u_32 1), .ref (u_32 2), .int 0, .int 0]))], [((u_32 0), .inl (g 0, 100, .inl (fun _ => 0)))], [((u_32 1), .inl (g 0, 200, .inl (fun _ => 0)))], [((u_32 2), .inl (g 0, 200, .inl (fun _ => 0)))]] 13 [0, 1, 2, 3, 4, 5, 6, 7, 8, 9, 10, 11, 12] rfl rfl (by decide) hP hD
  have hP : va_P (dC, dI) vwCl [(a_this_, .inr (4, [.ref a_q_2, .ref a_q_9, .ref a_q_16, .ref a_q_21, .int 0, .null, .null, .null, .int 0, .int 0, .int 0, .int 0, .int 0, .int 0, .int 0])), (a_q_2, .inr (8, [.ref (u_6 0), .ref (u_6 1), .int 0])), ((u_6 0), .inl (g 0, 50, .inl (fun _ => 0))), ((u_6 1), .inl (g 0, 50, .inl (fun _ => 0))), (a_q_9, .inr (5, [.ref (u_13 0), .ref (u_13 1), .int 0, .int 2, .int 0, .int 0])), ((u_13 0), .inl (g 0, 200, .inl (fun _ => 0))), ((u_13 1), .inl (g 0, 6, .inl (fun _ => 0))), (a_q_16, .inl (g 0, 6, .inl (fun _ => 0))), (a_q_21, .inl (g 0, 6, .inl (fun _ => 0))), (a_q_28, .inr (9, [.ref (u_32 0), .ref (u_32 1), .ref (u_32 2), .int 0, .int 0])), ((u_32 0), .inl (g 0, 100, .inl (fun _ => 0))), ((u_32 1), .inl (g 0, 200, .inl (fun _ => 0))), ((u_32 2), .inl (g 0, 200, .inl (fun _ => 0)))] H_31 := hP
  have hD : va_D A [(a_this_, .inr (4, [.ref a_q_2, .ref a_q_9, .ref a_q_16, .ref a_q_21, .int 0, .null, .null, .null, .int 0, .int 0, .int 0, .int 0, .int 0, .int 0, .int 0])), (a_q_2, .inr (8, [.ref (u_6 0), .ref (u_6 1), .int 0])), ((u_6 0), .inl (g 0, 50, .inl (fun _ => 0))), ((u_6 1), .inl (g 0, 50, .inl (fun _ => 0))), (a_q_9, .inr (5, [.ref (u_13 0), .ref (u_13 1), .int 0, .int 2, .int 0, .int 0])), ((u_13 0), .inl (g 0, 200, .inl (fun _ => 0))), ((u_13 1), .inl (g 0, 6, .inl (fun _ => 0))), (a_q_16, .inl (g 0, 6, .inl (fun _ => 0))), (a_q_21, .inl (g 0, 6, .inl (fun _ => 0))), (a_q_28, .inr (9, [.ref (u_32 0), .ref (u_32 1), .ref (u_32 2), .int 0, .int 0])), ((u_32 0), .inl (g 0, 100, .inl (fun _ => 0))), ((u_32 1), .inl (g 0, 200, .inl (fun _ => 0))), ((u_32 2), .inl (g 0, 200, .inl (fun _ => 0)))] := hD
  refine W.widen (k := 12) (n := 832) (by omega) (by omega) ?_
  refine va_put (D := (dC, dI)) (ci := 4) (v := .ref a_q_28) (ty := .object "RunmergeOffice$RunRow") (C := RX2) (T := TX2) (N := 15) hx hb hts hiX2 tyX2 tyX2_ok nmX2 hown hK hP hD hS 0 rfl rfl 5 (by decide) hf39 (fun _ h9 => h9) rfl (by decide +kernel) rfl rfl (Nat.le_of_ble_eq_true rfl) dX2_init_55 (fun H_33 L_34 hP hD hS => ?_)
  have hP : va_P (dC, dI) vwCl [(a_this_, .inr (4, [.ref a_q_2, .ref a_q_9, .ref a_q_16, .ref a_q_21, .int 0, .ref a_q_28, .null, .null, .int 0, .int 0, .int 0, .int 0, .int 0, .int 0, .int 0])), (a_q_2, .inr (8, [.ref (u_6 0), .ref (u_6 1), .int 0])), ((u_6 0), .inl (g 0, 50, .inl (fun _ => 0))), ((u_6 1), .inl (g 0, 50, .inl (fun _ => 0))), (a_q_9, .inr (5, [.ref (u_13 0), .ref (u_13 1), .int 0, .int 2, .int 0, .int 0])), ((u_13 0), .inl (g 0, 200, .inl (fun _ => 0))), ((u_13 1), .inl (g 0, 6, .inl (fun _ => 0))), (a_q_16, .inl (g 0, 6, .inl (fun _ => 0))), (a_q_21, .inl (g 0, 6, .inl (fun _ => 0))), (a_q_28, .inr (9, [.ref (u_32 0), .ref (u_32 1), .ref (u_32 2), .int 0, .int 0])), ((u_32 0), .inl (g 0, 100, .inl (fun _ => 0))), ((u_32 1), .inl (g 0, 200, .inl (fun _ => 0))), ((u_32 2), .inl (g 0, 200, .inl (fun _ => 0)))] H_33 := hP
  have hD : va_D A [(a_this_, .inr (4, [.ref a_q_2, .ref a_q_9, .ref a_q_16, .ref a_q_21, .int 0, .ref a_q_28, .null, .null, .int 0, .int 0, .int 0, .int 0, .int 0, .int 0, .int 0])), (a_q_2, .inr (8, [.ref (u_6 0), .ref (u_6 1), .int 0])), ((u_6 0), .inl (g 0, 50, .inl (fun _ => 0))), ((u_6 1), .inl (g 0, 50, .inl (fun _ => 0))), (a_q_9, .inr (5, [.ref (u_13 0), .ref (u_13 1), .int 0, .int 2, .int 0, .int 0])), ((u_13 0), .inl (g 0, 200, .inl (fun _ => 0))), ((u_13 1), .inl (g 0, 6, .inl (fun _ => 0))), (a_q_16, .inl (g 0, 6, .inl (fun _ => 0))), (a_q_21, .inl (g 0, 6, .inl (fun _ => 0))), (a_q_28, .inr (9, [.ref (u_32 0), .ref (u_32 1), .ref (u_32 2), .int 0, .int 0])), ((u_32 0), .inl (g 0, 100, .inl (fun _ => 0))), ((u_32 1), .inl (g 0, 200, .inl (fun _ => 0))), ((u_32 2), .inl (g 0, 200, .inl (fun _ => 0)))] := hD
  refine lv_aload_n hx hb dX2_init_58 rfl (lv_at hl 0 rfl) ?_
  refine va_new (ci := 9) (fs := [.null, .null, .null, .int 0, .int 0]) (C := RX7) (T := TX7) (N := 5) hx hb hts hiX7 tyX7 tyX7_ok hown hcl36 hinX7 hiniX7 hK hP hD hS hA rfl (fun j hj => by rcases (show j = 0 ∨ j = 1 ∨ j = 2 ∨ j = 3 ∨ j = 4 by omega) with rfl | rfl | rfl | rfl | rfl <;> rfl) (by rw [hrc]; omega) (by rw [hrs]; omega) dX2_init_59 (fun a_q_35 H_36 hP hD hS => ?_)
  obtain ⟨hP, hD⟩ := seg_join [[(a_this_, .inr (4, [.ref a_q_2, .ref a_q_9, .ref a_q_16, .ref a_q_21, .int 0, .ref a_q_28, .null, .null, .int 0, .int 0, .int 0, .int 0, .int 0, .int 0, .int 0]))], [(a_q_2, .inr (8, [.ref (u_6 0), .ref (u_6 1), .int 0]))], [((u_6 0), .inl (g 0, 50, .inl (fun _ => 0)))], [((u_6 1), .inl (g 0, 50, .inl (fun _ => 0)))], [(a_q_9, .inr (5, [.ref (u_13 0), .ref (u_13 1), .int 0, .int 2, .int 0, .int 0]))], [((u_13 0), .inl (g 0, 200, .inl (fun _ => 0)))], [((u_13 1), .inl (g 0, 6, .inl (fun _ => 0)))], [(a_q_16, .inl (g 0, 6, .inl (fun _ => 0)))], [(a_q_21, .inl (g 0, 6, .inl (fun _ => 0)))], [(a_q_28, .inr (9, [.ref (u_32 0), .ref (u_32 1), .ref (u_32 2), .int 0, .int 0]))], [((u_32 0), .inl (g 0, 100, .inl (fun _ => 0)))], [((u_32 1), .inl (g 0, 200, .inl (fun _ => 0)))], [((u_32 2), .inl (g 0, 200, .inl (fun _ => 0)))]] [[(a_q_35, .inr (9, [.null, .null, .null, .int 0, .int 0]))]] [[(a_this_, .inr (4, [.ref a_q_2, .ref a_q_9, .ref a_q_16, .ref a_q_21, .int 0, .ref a_q_28, .null, .null, .int 0, .int 0, .int 0, .int 0, .int 0, .int 0, .int 0]))], [(a_q_2, .inr (8, [.ref (u_6 0), .ref (u_6 1), .int 0]))], [((u_6 0), .inl (g 0, 50, .inl (fun _ => 0)))], [((u_6 1), .inl (g 0, 50, .inl (fun _ => 0)))], [(a_q_9, .inr (5, [.ref (u_13 0), .ref (u_13 1), .int 0, .int 2, .int 0, .int 0]))], [((u_13 0), .inl (g 0, 200, .inl (fun _ => 0)))], [((u_13 1), .inl (g 0, 6, .inl (fun _ => 0)))], [(a_q_16, .inl (g 0, 6, .inl (fun _ => 0)))], [(a_q_21, .inl (g 0, 6, .inl (fun _ => 0)))], [(a_q_28, .inr (9, [.ref (u_32 0), .ref (u_32 1), .ref (u_32 2), .int 0, .int 0]))], [((u_32 0), .inl (g 0, 100, .inl (fun _ => 0)))], [((u_32 1), .inl (g 0, 200, .inl (fun _ => 0)))], [((u_32 2), .inl (g 0, 200, .inl (fun _ => 0)))], [(a_q_35, .inr (9, [.null, .null, .null, .int 0, .int 0]))]] 14 [0, 1, 2, 3, 4, 5, 6, 7, 8, 9, 10, 11, 12, 13] rfl rfl (by decide) hP hD
  have hP : va_P (dC, dI) vwCl [(a_this_, .inr (4, [.ref a_q_2, .ref a_q_9, .ref a_q_16, .ref a_q_21, .int 0, .ref a_q_28, .null, .null, .int 0, .int 0, .int 0, .int 0, .int 0, .int 0, .int 0])), (a_q_2, .inr (8, [.ref (u_6 0), .ref (u_6 1), .int 0])), ((u_6 0), .inl (g 0, 50, .inl (fun _ => 0))), ((u_6 1), .inl (g 0, 50, .inl (fun _ => 0))), (a_q_9, .inr (5, [.ref (u_13 0), .ref (u_13 1), .int 0, .int 2, .int 0, .int 0])), ((u_13 0), .inl (g 0, 200, .inl (fun _ => 0))), ((u_13 1), .inl (g 0, 6, .inl (fun _ => 0))), (a_q_16, .inl (g 0, 6, .inl (fun _ => 0))), (a_q_21, .inl (g 0, 6, .inl (fun _ => 0))), (a_q_28, .inr (9, [.ref (u_32 0), .ref (u_32 1), .ref (u_32 2), .int 0, .int 0])), ((u_32 0), .inl (g 0, 100, .inl (fun _ => 0))), ((u_32 1), .inl (g 0, 200, .inl (fun _ => 0))), ((u_32 2), .inl (g 0, 200, .inl (fun _ => 0))), (a_q_35, .inr (9, [.null, .null, .null, .int 0, .int 0]))] H_36 := hP
  have hD : va_D A [(a_this_, .inr (4, [.ref a_q_2, .ref a_q_9, .ref a_q_16, .ref a_q_21, .int 0, .ref a_q_28, .null, .null, .int 0, .int 0, .int 0, .int 0, .int 0, .int 0, .int 0])), (a_q_2, .inr (8, [.ref (u_6 0), .ref (u_6 1), .int 0])), ((u_6 0), .inl (g 0, 50, .inl (fun _ => 0))), ((u_6 1), .inl (g 0, 50, .inl (fun _ => 0))), (a_q_9, .inr (5, [.ref (u_13 0), .ref (u_13 1), .int 0, .int 2, .int 0, .int 0])), ((u_13 0), .inl (g 0, 200, .inl (fun _ => 0))), ((u_13 1), .inl (g 0, 6, .inl (fun _ => 0))), (a_q_16, .inl (g 0, 6, .inl (fun _ => 0))), (a_q_21, .inl (g 0, 6, .inl (fun _ => 0))), (a_q_28, .inr (9, [.ref (u_32 0), .ref (u_32 1), .ref (u_32 2), .int 0, .int 0])), ((u_32 0), .inl (g 0, 100, .inl (fun _ => 0))), ((u_32 1), .inl (g 0, 200, .inl (fun _ => 0))), ((u_32 2), .inl (g 0, 200, .inl (fun _ => 0))), (a_q_35, .inr (9, [.null, .null, .null, .int 0, .int 0]))] := hD
  refine W.widen (k := 13) (n := 837) (by omega) (by omega) ?_
  refine lv_dup hx hb dX2_init_62 rfl ?_
  obtain ⟨hPs, hDs⟩ := seg_call (segs := [[(a_this_, .inr (4, [.ref a_q_2, .ref a_q_9, .ref a_q_16, .ref a_q_21, .int 0, .ref a_q_28, .null, .null, .int 0, .int 0, .int 0, .int 0, .int 0, .int 0, .int 0]))], [(a_q_2, .inr (8, [.ref (u_6 0), .ref (u_6 1), .int 0]))], [((u_6 0), .inl (g 0, 50, .inl (fun _ => 0)))], [((u_6 1), .inl (g 0, 50, .inl (fun _ => 0)))], [(a_q_9, .inr (5, [.ref (u_13 0), .ref (u_13 1), .int 0, .int 2, .int 0, .int 0]))], [((u_13 0), .inl (g 0, 200, .inl (fun _ => 0)))], [((u_13 1), .inl (g 0, 6, .inl (fun _ => 0)))], [(a_q_16, .inl (g 0, 6, .inl (fun _ => 0)))], [(a_q_21, .inl (g 0, 6, .inl (fun _ => 0)))], [(a_q_28, .inr (9, [.ref (u_32 0), .ref (u_32 1), .ref (u_32 2), .int 0, .int 0]))], [((u_32 0), .inl (g 0, 100, .inl (fun _ => 0)))], [((u_32 1), .inl (g 0, 200, .inl (fun _ => 0)))], [((u_32 2), .inl (g 0, 200, .inl (fun _ => 0)))], [(a_q_35, .inr (9, [.null, .null, .null, .int 0, .int 0]))]]) [[(a_this_, .inr (4, [.ref a_q_2, .ref a_q_9, .ref a_q_16, .ref a_q_21, .int 0, .ref a_q_28, .null, .null, .int 0, .int 0, .int 0, .int 0, .int 0, .int 0, .int 0]))], [(a_q_2, .inr (8, [.ref (u_6 0), .ref (u_6 1), .int 0]))], [((u_6 0), .inl (g 0, 50, .inl (fun _ => 0)))], [((u_6 1), .inl (g 0, 50, .inl (fun _ => 0)))], [(a_q_9, .inr (5, [.ref (u_13 0), .ref (u_13 1), .int 0, .int 2, .int 0, .int 0]))], [((u_13 0), .inl (g 0, 200, .inl (fun _ => 0)))], [((u_13 1), .inl (g 0, 6, .inl (fun _ => 0)))], [(a_q_16, .inl (g 0, 6, .inl (fun _ => 0)))], [(a_q_21, .inl (g 0, 6, .inl (fun _ => 0)))], [(a_q_28, .inr (9, [.ref (u_32 0), .ref (u_32 1), .ref (u_32 2), .int 0, .int 0]))], [((u_32 0), .inl (g 0, 100, .inl (fun _ => 0)))], [((u_32 1), .inl (g 0, 200, .inl (fun _ => 0)))], [((u_32 2), .inl (g 0, 200, .inl (fun _ => 0)))]] [[(a_q_35, .inr (9, [.null, .null, .null, .int 0, .int 0]))]] 14 [0, 1, 2, 3, 4, 5, 6, 7, 8, 9, 10, 11, 12, 13] rfl rfl (by decide) hP hD
  have hPc : va_P (dC, dI) vwCl [(a_q_35, .inr (9, [.null, .null, .null, .int 0, .int 0]))] H_36 := P_r hPs
  have hDc : va_D A [(a_q_35, .inr (9, [.null, .null, .null, .int 0, .int 0]))] := D_r hDs
  have hFc : ∀ q, va_A [(a_q_35, .inr (9, [.null, .null, .null, .int 0, .int 0]))] H_36.size q → A q := A_all hDc hA hS.1
  refine va_callv (va_runIN (As := []) (rest := [.ref a_q_35, .ref a_this_]) ⟨hx, hb, hml, hown, hts⟩ (c_X7_init l dC dI g (a_this_ := a_q_35) (hw := hw) (sz := H_36.size)) ⟨va_cnB 0 hts (gq0 aw_1_138) rfl rfl rfl (mnl_10 hG) hiniX7 (by decide +kernel) ⟨Nat.le_of_ble_eq_true rfl, Nat.le_of_ble_eq_true rfl⟩, rfl, himX7_init⟩ ⟨PG_blind, PG_call hK hG hS hPc hDc hFc⟩ rfl rfl hl.1 rfl (lv_room (Nat.le_of_ble_eq_true rfl)) dX2_init_63 ⟨by rw [hrc]; omega, by rw [hrs]; omega⟩) hS (fun q _ h => hFc q h) hFc (fun u_38 t_38 H_38 L_38 ht_38 hvm_38 hw_38 hB_38 hz_38 hk_38 hS => ?_)
  obtain ⟨u_39, u_38⟩ := u_38
  have hw := hw_38
  rw [ht_38] at hB_38
  obtain ⟨hP1, hD1⟩ := hB_38
  obtain ⟨hP, hD⟩ := join_r hPs hDs hk_38 hFc hP1 hD1
  obtain ⟨hP, hD⟩ := seg_join [[(a_this_, .inr (4, [.ref a_q_2, .ref a_q_9, .ref a_q_16, .ref a_q_21, .int 0, .ref a_q_28, .null, .null, .int 0, .int 0, .int 0, .int 0, .int 0, .int 0, .int 0]))], [(a_q_2, .inr (8, [.ref (u_6 0), .ref (u_6 1), .int 0]))], [((u_6 0), .inl (g 0, 50, .inl (fun _ => 0)))], [((u_6 1), .inl (g 0, 50, .inl (fun _ => 0)))], [(a_q_9, .inr (5, [.ref (u_13 0), .ref (u_13 1), .int 0, .int 2, .int 0, .int 0]))], [((u_13 0), .inl (g 0, 200, .inl (fun _ => 0)))], [((u_13 1), .inl (g 0, 6, .inl (fun _ => 0)))], [(a_q_16, .inl (g 0, 6, .inl (fun _ => 0)))], [(a_q_21, .inl (g 0, 6, .inl (fun _ => 0)))], [(a_q_28, .inr (9, [.ref (u_32 0), .ref (u_32 1), .ref (u_32 2), .int 0, .int 0]))], [((u_32 0), .inl (g 0, 100, .inl (fun _ => 0)))], [((u_32 1), .inl (g 0, 200, .inl (fun _ => 0)))], [((u_32 2), .inl (g 0, 200, .inl (fun _ => 0)))]] [[(a_q_35, .inr (9, [.ref (u_39 0), .ref (u_39 1), .ref (u_39 2), .int 0, .int 0]))], [((u_39 0), .inl (g 0, 100, .inl (fun _ => 0)))], [((u_39 1), .inl (g 0, 200, .inl (fun _ => 0)))], [((u_39 2), .inl (g 0, 200, .inl (fun _ => 0)))]] [[(a_this_, .inr (4, [.ref a_q_2, .ref a_q_9, .ref a_q_16, .ref a_q_21, .int 0, .ref a_q_28, .null, .null, .int 0, .int 0, .int 0, .int 0, .int 0, .int 0, .int 0]))], [(a_q_2, .inr (8, [.ref (u_6 0), .ref (u_6 1), .int 0]))], [((u_6 0), .inl (g 0, 50, .inl (fun _ => 0)))], [((u_6 1), .inl (g 0, 50, .inl (fun _ => 0)))], [(a_q_9, .inr (5, [.ref (u_13 0), .ref (u_13 1), .int 0, .int 2, .int 0, .int 0]))], [((u_13 0), .inl (g 0, 200, .inl (fun _ => 0)))], [((u_13 1), .inl (g 0, 6, .inl (fun _ => 0)))], [(a_q_16, .inl (g 0, 6, .inl (fun _ => 0)))], [(a_q_21, .inl (g 0, 6, .inl (fun _ => 0)))], [(a_q_28, .inr (9, [.ref (u_32 0), .ref (u_32 1), .ref (u_32 2), .int 0, .int 0]))], [((u_32 0), .inl (g 0, 100, .inl (fun _ => 0)))], [((u_32 1), .inl (g 0, 200, .inl (fun _ => 0)))], [((u_32 2), .inl (g 0, 200, .inl (fun _ => 0)))], [(a_q_35, .inr (9, [.ref (u_39 0), .ref (u_39 1), .ref (u_39 2), .int 0, .int 0]))], [((u_39 0), .inl (g 0, 100, .inl (fun _ => 0)))], [((u_39 1), .inl (g 0, 200, .inl (fun _ => 0)))], [((u_39 2), .inl (g 0, 200, .inl (fun _ => 0)))]] 17 [0, 1, 2, 3, 4, 5, 6, 7, 8, 9, 10, 11, 12, 13, 14, 15, 16] rfl rfl (by decide) hP hD
  have hP : va_P (dC, dI) vwCl [(a_this_, .inr (4, [.ref a_q_2, .ref a_q_9, .ref a_q_16, .ref a_q_21, .int 0, .ref a_q_28, .null, .null, .int 0, .int 0, .int 0, .int 0, .int 0, .int 0, .int 0])), (a_q_2, .inr (8, [.ref (u_6 0), .ref (u_6 1), .int 0])), ((u_6 0), .inl (g 0, 50, .inl (fun _ => 0))), ((u_6 1), .inl (g 0, 50, .inl (fun _ => 0))), (a_q_9, .inr (5, [.ref (u_13 0), .ref (u_13 1), .int 0, .int 2, .int 0, .int 0])), ((u_13 0), .inl (g 0, 200, .inl (fun _ => 0))), ((u_13 1), .inl (g 0, 6, .inl (fun _ => 0))), (a_q_16, .inl (g 0, 6, .inl (fun _ => 0))), (a_q_21, .inl (g 0, 6, .inl (fun _ => 0))), (a_q_28, .inr (9, [.ref (u_32 0), .ref (u_32 1), .ref (u_32 2), .int 0, .int 0])), ((u_32 0), .inl (g 0, 100, .inl (fun _ => 0))), ((u_32 1), .inl (g 0, 200, .inl (fun _ => 0))), ((u_32 2), .inl (g 0, 200, .inl (fun _ => 0))), (a_q_35, .inr (9, [.ref (u_39 0), .ref (u_39 1), .ref (u_39 2), .int 0, .int 0])), ((u_39 0), .inl (g 0, 100, .inl (fun _ => 0))), ((u_39 1), .inl (g 0, 200, .inl (fun _ => 0))), ((u_39 2), .inl (g 0, 200, .inl (fun _ => 0)))] H_38 := hP
  have hD : va_D A [(a_this_, .inr (4, [.ref a_q_2, .ref a_q_9, .ref a_q_16, .ref a_q_21, .int 0, .ref a_q_28, .null, .null, .int 0, .int 0, .int 0, .int 0, .int 0, .int 0, .int 0])), (a_q_2, .inr (8, [.ref (u_6 0), .ref (u_6 1), .int 0])), ((u_6 0), .inl (g 0, 50, .inl (fun _ => 0))), ((u_6 1), .inl (g 0, 50, .inl (fun _ => 0))), (a_q_9, .inr (5, [.ref (u_13 0), .ref (u_13 1), .int 0, .int 2, .int 0, .int 0])), ((u_13 0), .inl (g 0, 200, .inl (fun _ => 0))), ((u_13 1), .inl (g 0, 6, .inl (fun _ => 0))), (a_q_16, .inl (g 0, 6, .inl (fun _ => 0))), (a_q_21, .inl (g 0, 6, .inl (fun _ => 0))), (a_q_28, .inr (9, [.ref (u_32 0), .ref (u_32 1), .ref (u_32 2), .int 0, .int 0])), ((u_32 0), .inl (g 0, 100, .inl (fun _ => 0))), ((u_32 1), .inl (g 0, 200, .inl (fun _ => 0))), ((u_32 2), .inl (g 0, 200, .inl (fun _ => 0))), (a_q_35, .inr (9, [.ref (u_39 0), .ref (u_39 1), .ref (u_39 2), .int 0, .int 0])), ((u_39 0), .inl (g 0, 100, .inl (fun _ => 0))), ((u_39 1), .inl (g 0, 200, .inl (fun _ => 0))), ((u_39 2), .inl (g 0, 200, .inl (fun _ => 0)))] := hD
  refine W.widen (k := 16) (n := 1337) (by omega) (by omega) ?_
  refine va_putF (D := (dC, dI)) (ci := 4) (v := .ref a_q_35) (ty := .object "RunmergeOffice$RunRow") (C := RX2) (T := TX2) (N := 15) hx hb hts hiX2 tyX2 tyX2_ok nmX2 hown hK hP hD hS 0 rfl rfl 6 (by decide) hf43 (fun _ h9 => h9) rfl hin rfl (by decide +kernel) rfl rfl (Nat.le_of_ble_eq_true rfl) dX2_init_66 (fun H_40 L_41 hP hD hS => ?_)
  have hP : va_P (dC, dI) vwCl [(a_this_, .inr (4, [.ref a_q_2, .ref a_q_9, .ref a_q_16, .ref a_q_21, .int 0, .ref a_q_28, .ref a_q_35, .null, .int 0, .int 0, .int 0, .int 0, .int 0, .int 0, .int 0])), (a_q_2, .inr (8, [.ref (u_6 0), .ref (u_6 1), .int 0])), ((u_6 0), .inl (g 0, 50, .inl (fun _ => 0))), ((u_6 1), .inl (g 0, 50, .inl (fun _ => 0))), (a_q_9, .inr (5, [.ref (u_13 0), .ref (u_13 1), .int 0, .int 2, .int 0, .int 0])), ((u_13 0), .inl (g 0, 200, .inl (fun _ => 0))), ((u_13 1), .inl (g 0, 6, .inl (fun _ => 0))), (a_q_16, .inl (g 0, 6, .inl (fun _ => 0))), (a_q_21, .inl (g 0, 6, .inl (fun _ => 0))), (a_q_28, .inr (9, [.ref (u_32 0), .ref (u_32 1), .ref (u_32 2), .int 0, .int 0])), ((u_32 0), .inl (g 0, 100, .inl (fun _ => 0))), ((u_32 1), .inl (g 0, 200, .inl (fun _ => 0))), ((u_32 2), .inl (g 0, 200, .inl (fun _ => 0))), (a_q_35, .inr (9, [.ref (u_39 0), .ref (u_39 1), .ref (u_39 2), .int 0, .int 0])), ((u_39 0), .inl (g 0, 100, .inl (fun _ => 0))), ((u_39 1), .inl (g 0, 200, .inl (fun _ => 0))), ((u_39 2), .inl (g 0, 200, .inl (fun _ => 0)))] H_40 := hP
  have hD : va_D A [(a_this_, .inr (4, [.ref a_q_2, .ref a_q_9, .ref a_q_16, .ref a_q_21, .int 0, .ref a_q_28, .ref a_q_35, .null, .int 0, .int 0, .int 0, .int 0, .int 0, .int 0, .int 0])), (a_q_2, .inr (8, [.ref (u_6 0), .ref (u_6 1), .int 0])), ((u_6 0), .inl (g 0, 50, .inl (fun _ => 0))), ((u_6 1), .inl (g 0, 50, .inl (fun _ => 0))), (a_q_9, .inr (5, [.ref (u_13 0), .ref (u_13 1), .int 0, .int 2, .int 0, .int 0])), ((u_13 0), .inl (g 0, 200, .inl (fun _ => 0))), ((u_13 1), .inl (g 0, 6, .inl (fun _ => 0))), (a_q_16, .inl (g 0, 6, .inl (fun _ => 0))), (a_q_21, .inl (g 0, 6, .inl (fun _ => 0))), (a_q_28, .inr (9, [.ref (u_32 0), .ref (u_32 1), .ref (u_32 2), .int 0, .int 0])), ((u_32 0), .inl (g 0, 100, .inl (fun _ => 0))), ((u_32 1), .inl (g 0, 200, .inl (fun _ => 0))), ((u_32 2), .inl (g 0, 200, .inl (fun _ => 0))), (a_q_35, .inr (9, [.ref (u_39 0), .ref (u_39 1), .ref (u_39 2), .int 0, .int 0])), ((u_39 0), .inl (g 0, 100, .inl (fun _ => 0))), ((u_39 1), .inl (g 0, 200, .inl (fun _ => 0))), ((u_39 2), .inl (g 0, 200, .inl (fun _ => 0)))] := hD
  refine lv_aload_n hx hb dX2_init_69 rfl (lv_at hl 0 rfl) ?_
  refine va_new (ci := 9) (fs := [.null, .null, .null, .int 0, .int 0]) (C := RX7) (T := TX7) (N := 5) hx hb hts hiX7 tyX7 tyX7_ok hown hcl36 hinX7 hiniX7 hK hP hD hS hA rfl (fun j hj => by rcases (show j = 0 ∨ j = 1 ∨ j = 2 ∨ j = 3 ∨ j = 4 by omega) with rfl | rfl | rfl | rfl | rfl <;> rfl) (by rw [hrc]; omega) (by rw [hrs]; omega) dX2_init_70 (fun a_q_42 H_43 hP hD hS => ?_)
  obtain ⟨hP, hD⟩ := seg_join [[(a_this_, .inr (4, [.ref a_q_2, .ref a_q_9, .ref a_q_16, .ref a_q_21, .int 0, .ref a_q_28, .ref a_q_35, .null, .int 0, .int 0, .int 0, .int 0, .int 0, .int 0, .int 0]))], [(a_q_2, .inr (8, [.ref (u_6 0), .ref (u_6 1), .int 0]))], [((u_6 0), .inl (g 0, 50, .inl (fun _ => 0)))], [((u_6 1), .inl (g 0, 50, .inl (fun _ => 0)))], [(a_q_9, .inr (5, [.ref (u_13 0), .ref (u_13 1), .int 0, .int 2, .int 0, .int 0]))], [((u_13 0), .inl (g 0, 200, .inl (fun _ => 0)))], [((u_13 1), .inl (g 0, 6, .inl (fun _ => 0)))], [(a_q_16, .inl (g 0, 6, .inl (fun _ => 0)))], [(a_q_21, .inl (g 0, 6, .inl (fun _ => 0)))], [(a_q_28, .inr (9, [.ref (u_32 0), .ref (u_32 1), .ref (u_32 2), .int 0, .int 0]))], [((u_32 0), .inl (g 0, 100, .inl (fun _ => 0)))], [((u_32 1), .inl (g 0, 200, .inl (fun _ => 0)))], [((u_32 2), .inl (g 0, 200, .inl (fun _ => 0)))], [(a_q_35, .inr (9, [.ref (u_39 0), .ref (u_39 1), .ref (u_39 2), .int 0, .int 0]))], [((u_39 0), .inl (g 0, 100, .inl (fun _ => 0)))], [((u_39 1), .inl (g 0, 200, .inl (fun _ => 0)))], [((u_39 2), .inl (g 0, 200, .inl (fun _ => 0)))]] [[(a_q_42, .inr (9, [.null, .null, .null, .int 0, .int 0]))]] [[(a_this_, .inr (4, [.ref a_q_2, .ref a_q_9, .ref a_q_16, .ref a_q_21, .int 0, .ref a_q_28, .ref a_q_35, .null, .int 0, .int 0, .int 0, .int 0, .int 0, .int 0, .int 0]))], [(a_q_2, .inr (8, [.ref (u_6 0), .ref (u_6 1), .int 0]))], [((u_6 0), .inl (g 0, 50, .inl (fun _ => 0)))], [((u_6 1), .inl (g 0, 50, .inl (fun _ => 0)))], [(a_q_9, .inr (5, [.ref (u_13 0), .ref (u_13 1), .int 0, .int 2, .int 0, .int 0]))], [((u_13 0), .inl (g 0, 200, .inl (fun _ => 0)))], [((u_13 1), .inl (g 0, 6, .inl (fun _ => 0)))], [(a_q_16, .inl (g 0, 6, .inl (fun _ => 0)))], [(a_q_21, .inl (g 0, 6, .inl (fun _ => 0)))], [(a_q_28, .inr (9, [.ref (u_32 0), .ref (u_32 1), .ref (u_32 2), .int 0, .int 0]))], [((u_32 0), .inl (g 0, 100, .inl (fun _ => 0)))], [((u_32 1), .inl (g 0, 200, .inl (fun _ => 0)))], [((u_32 2), .inl (g 0, 200, .inl (fun _ => 0)))], [(a_q_35, .inr (9, [.ref (u_39 0), .ref (u_39 1), .ref (u_39 2), .int 0, .int 0]))], [((u_39 0), .inl (g 0, 100, .inl (fun _ => 0)))], [((u_39 1), .inl (g 0, 200, .inl (fun _ => 0)))], [((u_39 2), .inl (g 0, 200, .inl (fun _ => 0)))], [(a_q_42, .inr (9, [.null, .null, .null, .int 0, .int 0]))]] 18 [0, 1, 2, 3, 4, 5, 6, 7, 8, 9, 10, 11, 12, 13, 14, 15, 16, 17] rfl rfl (by decide) hP hD
  have hP : va_P (dC, dI) vwCl [(a_this_, .inr (4, [.ref a_q_2, .ref a_q_9, .ref a_q_16, .ref a_q_21, .int 0, .ref a_q_28, .ref a_q_35, .null, .int 0, .int 0, .int 0, .int 0, .int 0, .int 0, .int 0])), (a_q_2, .inr (8, [.ref (u_6 0), .ref (u_6 1), .int 0])), ((u_6 0), .inl (g 0, 50, .inl (fun _ => 0))), ((u_6 1), .inl (g 0, 50, .inl (fun _ => 0))), (a_q_9, .inr (5, [.ref (u_13 0), .ref (u_13 1), .int 0, .int 2, .int 0, .int 0])), ((u_13 0), .inl (g 0, 200, .inl (fun _ => 0))), ((u_13 1), .inl (g 0, 6, .inl (fun _ => 0))), (a_q_16, .inl (g 0, 6, .inl (fun _ => 0))), (a_q_21, .inl (g 0, 6, .inl (fun _ => 0))), (a_q_28, .inr (9, [.ref (u_32 0), .ref (u_32 1), .ref (u_32 2), .int 0, .int 0])), ((u_32 0), .inl (g 0, 100, .inl (fun _ => 0))), ((u_32 1), .inl (g 0, 200, .inl (fun _ => 0))), ((u_32 2), .inl (g 0, 200, .inl (fun _ => 0))), (a_q_35, .inr (9, [.ref (u_39 0), .ref (u_39 1), .ref (u_39 2), .int 0, .int 0])), ((u_39 0), .inl (g 0, 100, .inl (fun _ => 0))), ((u_39 1), .inl (g 0, 200, .inl (fun _ => 0))), ((u_39 2), .inl (g 0, 200, .inl (fun _ => 0))), (a_q_42, .inr (9, [.null, .null, .null, .int 0, .int 0]))] H_43 := hP
  have hD : va_D A [(a_this_, .inr (4, [.ref a_q_2, .ref a_q_9, .ref a_q_16, .ref a_q_21, .int 0, .ref a_q_28, .ref a_q_35, .null, .int 0, .int 0, .int 0, .int 0, .int 0, .int 0, .int 0])), (a_q_2, .inr (8, [.ref (u_6 0), .ref (u_6 1), .int 0])), ((u_6 0), .inl (g 0, 50, .inl (fun _ => 0))), ((u_6 1), .inl (g 0, 50, .inl (fun _ => 0))), (a_q_9, .inr (5, [.ref (u_13 0), .ref (u_13 1), .int 0, .int 2, .int 0, .int 0])), ((u_13 0), .inl (g 0, 200, .inl (fun _ => 0))), ((u_13 1), .inl (g 0, 6, .inl (fun _ => 0))), (a_q_16, .inl (g 0, 6, .inl (fun _ => 0))), (a_q_21, .inl (g 0, 6, .inl (fun _ => 0))), (a_q_28, .inr (9, [.ref (u_32 0), .ref (u_32 1), .ref (u_32 2), .int 0, .int 0])), ((u_32 0), .inl (g 0, 100, .inl (fun _ => 0))), ((u_32 1), .inl (g 0, 200, .inl (fun _ => 0))), ((u_32 2), .inl (g 0, 200, .inl (fun _ => 0))), (a_q_35, .inr (9, [.ref (u_39 0), .ref (u_39 1), .ref (u_39 2), .int 0, .int 0])), ((u_39 0), .inl (g 0, 100, .inl (fun _ => 0))), ((u_39 1), .inl (g 0, 200, .inl (fun _ => 0))), ((u_39 2), .inl (g 0, 200, .inl (fun _ => 0))), (a_q_42, .inr (9, [.null, .null, .null, .int 0, .int 0]))] := hD
  refine W.widen (k := 17) (n := 1342) (by omega) (by omega) ?_
  refine lv_dup hx hb dX2_init_73 rfl ?_
  obtain ⟨hPs, hDs⟩ := seg_call (segs := [[(a_this_, .inr (4, [.ref a_q_2, .ref a_q_9, .ref a_q_16, .ref a_q_21, .int 0, .ref a_q_28, .ref a_q_35, .null, .int 0, .int 0, .int 0, .int 0, .int 0, .int 0, .int 0]))], [(a_q_2, .inr (8, [.ref (u_6 0), .ref (u_6 1), .int 0]))], [((u_6 0), .inl (g 0, 50, .inl (fun _ => 0)))], [((u_6 1), .inl (g 0, 50, .inl (fun _ => 0)))], [(a_q_9, .inr (5, [.ref (u_13 0), .ref (u_13 1), .int 0, .int 2, .int 0, .int 0]))], [((u_13 0), .inl (g 0, 200, .inl (fun _ => 0)))], [((u_13 1), .inl (g 0, 6, .inl (fun _ => 0)))], [(a_q_16, .inl (g 0, 6, .inl (fun _ => 0)))], [(a_q_21, .inl (g 0, 6, .inl (fun _ => 0)))], [(a_q_28, .inr (9, [.ref (u_32 0), .ref (u_32 1), .ref (u_32 2), .int 0, .int 0]))], [((u_32 0), .inl (g 0, 100, .inl (fun _ => 0)))], [((u_32 1), .inl (g 0, 200, .inl (fun _ => 0)))], [((u_32 2), .inl (g 0, 200, .inl (fun _ => 0)))], [(a_q_35, .inr (9, [.ref (u_39 0), .ref (u_39 1), .ref (u_39 2), .int 0, .int 0]))], [((u_39 0), .inl (g 0, 100, .inl (fun _ => 0)))], [((u_39 1), .inl (g 0, 200, .inl (fun _ => 0)))], [((u_39 2), .inl (g 0, 200, .inl (fun _ => 0)))], [(a_q_42, .inr (9, [.null, .null, .null, .int 0, .int 0]))]]) [[(a_this_, .inr (4, [.ref a_q_2, .ref a_q_9, .ref a_q_16, .ref a_q_21, .int 0, .ref a_q_28, .ref a_q_35, .null, .int 0, .int 0, .int 0, .int 0, .int 0, .int 0, .int 0]))], [(a_q_2, .inr (8, [.ref (u_6 0), .ref (u_6 1), .int 0]))], [((u_6 0), .inl (g 0, 50, .inl (fun _ => 0)))], [((u_6 1), .inl (g 0, 50, .inl (fun _ => 0)))], [(a_q_9, .inr (5, [.ref (u_13 0), .ref (u_13 1), .int 0, .int 2, .int 0, .int 0]))], [((u_13 0), .inl (g 0, 200, .inl (fun _ => 0)))], [((u_13 1), .inl (g 0, 6, .inl (fun _ => 0)))], [(a_q_16, .inl (g 0, 6, .inl (fun _ => 0)))], [(a_q_21, .inl (g 0, 6, .inl (fun _ => 0)))], [(a_q_28, .inr (9, [.ref (u_32 0), .ref (u_32 1), .ref (u_32 2), .int 0, .int 0]))], [((u_32 0), .inl (g 0, 100, .inl (fun _ => 0)))], [((u_32 1), .inl (g 0, 200, .inl (fun _ => 0)))], [((u_32 2), .inl (g 0, 200, .inl (fun _ => 0)))], [(a_q_35, .inr (9, [.ref (u_39 0), .ref (u_39 1), .ref (u_39 2), .int 0, .int 0]))], [((u_39 0), .inl (g 0, 100, .inl (fun _ => 0)))], [((u_39 1), .inl (g 0, 200, .inl (fun _ => 0)))], [((u_39 2), .inl (g 0, 200, .inl (fun _ => 0)))]] [[(a_q_42, .inr (9, [.null, .null, .null, .int 0, .int 0]))]] 18 [0, 1, 2, 3, 4, 5, 6, 7, 8, 9, 10, 11, 12, 13, 14, 15, 16, 17] rfl rfl (by decide) hP hD
  have hPc : va_P (dC, dI) vwCl [(a_q_42, .inr (9, [.null, .null, .null, .int 0, .int 0]))] H_43 := P_r hPs
  have hDc : va_D A [(a_q_42, .inr (9, [.null, .null, .null, .int 0, .int 0]))] := D_r hDs
  have hFc : ∀ q, va_A [(a_q_42, .inr (9, [.null, .null, .null, .int 0, .int 0]))] H_43.size q → A q := A_all hDc hA hS.1
  refine va_callv (va_runIN (As := []) (rest := [.ref a_q_42, .ref a_this_]) ⟨hx, hb, hml, hown, hts⟩ (c_X7_init l dC dI g (a_this_ := a_q_42) (hw := hw) (sz := H_43.size)) ⟨va_cnB 0 hts (gq0 aw_1_138) rfl rfl rfl (mnl_10 hG) hiniX7 (by decide +kernel) ⟨Nat.le_of_ble_eq_true rfl, Nat.le_of_ble_eq_true rfl⟩, rfl, himX7_init⟩ ⟨PG_blind, PG_call hK hG hS hPc hDc hFc⟩ rfl rfl hl.1 rfl (lv_room (Nat.le_of_ble_eq_true rfl)) dX2_init_74 ⟨by rw [hrc]; omega, by rw [hrs]; omega⟩) hS (fun q _ h => hFc q h) hFc (fun u_45 t_45 H_45 L_45 ht_45 hvm_45 hw_45 hB_45 hz_45 hk_45 hS => ?_)
  obtain ⟨u_46, u_45⟩ := u_45
  have hw := hw_45
  rw [ht_45] at hB_45
  obtain ⟨hP1, hD1⟩ := hB_45
  obtain ⟨hP, hD⟩ := join_r hPs hDs hk_45 hFc hP1 hD1
  obtain ⟨hP, hD⟩ := seg_join [[(a_this_, .inr (4, [.ref a_q_2, .ref a_q_9, .ref a_q_16, .ref a_q_21, .int 0, .ref a_q_28, .ref a_q_35, .null, .int 0, .int 0, .int 0, .int 0, .int 0, .int 0, .int 0]))], [(a_q_2, .inr (8, [.ref (u_6 0), .ref (u_6 1), .int 0]))], [((u_6 0), .inl (g 0, 50, .inl (fun _ => 0)))], [((u_6 1), .inl (g 0, 50, .inl (fun _ => 0)))], [(a_q_9, .inr (5, [.ref (u_13 0), .ref (u_13 1), .int 0, .int 2, .int 0, .int 0]))], [((u_13 0), .inl (g 0, 200, .inl (fun _ => 0)))], [((u_13 1), .inl (g 0, 6, .inl (fun _ => 0)))], [(a_q_16, .inl (g 0, 6, .inl (fun _ => 0)))], [(a_q_21, .inl (g 0, 6, .inl (fun _ => 0)))], [(a_q_28, .inr (9, [.ref (u_32 0), .ref (u_32 1), .ref (u_32 2), .int 0, .int 0]))], [((u_32 0), .inl (g 0, 100, .inl (fun _ => 0)))], [((u_32 1), .inl (g 0, 200, .inl (fun _ => 0)))], [((u_32 2), .inl (g 0, 200, .inl (fun _ => 0)))], [(a_q_35, .inr (9, [.ref (u_39 0), .ref (u_39 1), .ref (u_39 2), .int 0, .int 0]))], [((u_39 0), .inl (g 0, 100, .inl (fun _ => 0)))], [((u_39 1), .inl (g 0, 200, .inl (fun _ => 0)))], [((u_39 2), .inl (g 0, 200, .inl (fun _ => 0)))]] [[(a_q_42, .inr (9, [.ref (u_46 0), .ref (u_46 1), .ref (u_46 2), .int 0, .int 0]))], [((u_46 0), .inl (g 0, 100, .inl (fun _ => 0)))], [((u_46 1), .inl (g 0, 200, .inl (fun _ => 0)))], [((u_46 2), .inl (g 0, 200, .inl (fun _ => 0)))]] [[(a_this_, .inr (4, [.ref a_q_2, .ref a_q_9, .ref a_q_16, .ref a_q_21, .int 0, .ref a_q_28, .ref a_q_35, .null, .int 0, .int 0, .int 0, .int 0, .int 0, .int 0, .int 0]))], [(a_q_2, .inr (8, [.ref (u_6 0), .ref (u_6 1), .int 0]))], [((u_6 0), .inl (g 0, 50, .inl (fun _ => 0)))], [((u_6 1), .inl (g 0, 50, .inl (fun _ => 0)))], [(a_q_9, .inr (5, [.ref (u_13 0), .ref (u_13 1), .int 0, .int 2, .int 0, .int 0]))], [((u_13 0), .inl (g 0, 200, .inl (fun _ => 0)))], [((u_13 1), .inl (g 0, 6, .inl (fun _ => 0)))], [(a_q_16, .inl (g 0, 6, .inl (fun _ => 0)))], [(a_q_21, .inl (g 0, 6, .inl (fun _ => 0)))], [(a_q_28, .inr (9, [.ref (u_32 0), .ref (u_32 1), .ref (u_32 2), .int 0, .int 0]))], [((u_32 0), .inl (g 0, 100, .inl (fun _ => 0)))], [((u_32 1), .inl (g 0, 200, .inl (fun _ => 0)))], [((u_32 2), .inl (g 0, 200, .inl (fun _ => 0)))], [(a_q_35, .inr (9, [.ref (u_39 0), .ref (u_39 1), .ref (u_39 2), .int 0, .int 0]))], [((u_39 0), .inl (g 0, 100, .inl (fun _ => 0)))], [((u_39 1), .inl (g 0, 200, .inl (fun _ => 0)))], [((u_39 2), .inl (g 0, 200, .inl (fun _ => 0)))], [(a_q_42, .inr (9, [.ref (u_46 0), .ref (u_46 1), .ref (u_46 2), .int 0, .int 0]))], [((u_46 0), .inl (g 0, 100, .inl (fun _ => 0)))], [((u_46 1), .inl (g 0, 200, .inl (fun _ => 0)))], [((u_46 2), .inl (g 0, 200, .inl (fun _ => 0)))]] 21 [0, 1, 2, 3, 4, 5, 6, 7, 8, 9, 10, 11, 12, 13, 14, 15, 16, 17, 18, 19, 20] rfl rfl (by decide) hP hD
  have hP : va_P (dC, dI) vwCl [(a_this_, .inr (4, [.ref a_q_2, .ref a_q_9, .ref a_q_16, .ref a_q_21, .int 0, .ref a_q_28, .ref a_q_35, .null, .int 0, .int 0, .int 0, .int 0, .int 0, .int 0, .int 0])), (a_q_2, .inr (8, [.ref (u_6 0), .ref (u_6 1), .int 0])), ((u_6 0), .inl (g 0, 50, .inl (fun _ => 0))), ((u_6 1), .inl (g 0, 50, .inl (fun _ => 0))), (a_q_9, .inr (5, [.ref (u_13 0), .ref (u_13 1), .int 0, .int 2, .int 0, .int 0])), ((u_13 0), .inl (g 0, 200, .inl (fun _ => 0))), ((u_13 1), .inl (g 0, 6, .inl (fun _ => 0))), (a_q_16, .inl (g 0, 6, .inl (fun _ => 0))), (a_q_21, .inl (g 0, 6, .inl (fun _ => 0))), (a_q_28, .inr (9, [.ref (u_32 0), .ref (u_32 1), .ref (u_32 2), .int 0, .int 0])), ((u_32 0), .inl (g 0, 100, .inl (fun _ => 0))), ((u_32 1), .inl (g 0, 200, .inl (fun _ => 0))), ((u_32 2), .inl (g 0, 200, .inl (fun _ => 0))), (a_q_35, .inr (9, [.ref (u_39 0), .ref (u_39 1), .ref (u_39 2), .int 0, .int 0])), ((u_39 0), .inl (g 0, 100, .inl (fun _ => 0))), ((u_39 1), .inl (g 0, 200, .inl (fun _ => 0))), ((u_39 2), .inl (g 0, 200, .inl (fun _ => 0))), (a_q_42, .inr (9, [.ref (u_46 0), .ref (u_46 1), .ref (u_46 2), .int 0, .int 0])), ((u_46 0), .inl (g 0, 100, .inl (fun _ => 0))), ((u_46 1), .inl (g 0, 200, .inl (fun _ => 0))), ((u_46 2), .inl (g 0, 200, .inl (fun _ => 0)))] H_45 := hP
  have hD : va_D A [(a_this_, .inr (4, [.ref a_q_2, .ref a_q_9, .ref a_q_16, .ref a_q_21, .int 0, .ref a_q_28, .ref a_q_35, .null, .int 0, .int 0, .int 0, .int 0, .int 0, .int 0, .int 0])), (a_q_2, .inr (8, [.ref (u_6 0), .ref (u_6 1), .int 0])), ((u_6 0), .inl (g 0, 50, .inl (fun _ => 0))), ((u_6 1), .inl (g 0, 50, .inl (fun _ => 0))), (a_q_9, .inr (5, [.ref (u_13 0), .ref (u_13 1), .int 0, .int 2, .int 0, .int 0])), ((u_13 0), .inl (g 0, 200, .inl (fun _ => 0))), ((u_13 1), .inl (g 0, 6, .inl (fun _ => 0))), (a_q_16, .inl (g 0, 6, .inl (fun _ => 0))), (a_q_21, .inl (g 0, 6, .inl (fun _ => 0))), (a_q_28, .inr (9, [.ref (u_32 0), .ref (u_32 1), .ref (u_32 2), .int 0, .int 0])), ((u_32 0), .inl (g 0, 100, .inl (fun _ => 0))), ((u_32 1), .inl (g 0, 200, .inl (fun _ => 0))), ((u_32 2), .inl (g 0, 200, .inl (fun _ => 0))), (a_q_35, .inr (9, [.ref (u_39 0), .ref (u_39 1), .ref (u_39 2), .int 0, .int 0])), ((u_39 0), .inl (g 0, 100, .inl (fun _ => 0))), ((u_39 1), .inl (g 0, 200, .inl (fun _ => 0))), ((u_39 2), .inl (g 0, 200, .inl (fun _ => 0))), (a_q_42, .inr (9, [.ref (u_46 0), .ref (u_46 1), .ref (u_46 2), .int 0, .int 0])), ((u_46 0), .inl (g 0, 100, .inl (fun _ => 0))), ((u_46 1), .inl (g 0, 200, .inl (fun _ => 0))), ((u_46 2), .inl (g 0, 200, .inl (fun _ => 0)))] := hD
  refine W.widen (k := 20) (n := 1842) (by omega) (by omega) ?_
  refine va_put (D := (dC, dI)) (ci := 4) (v := .ref a_q_42) (ty := .object "RunmergeOffice$RunRow") (C := RX2) (T := TX2) (N := 15) hx hb hts hiX2 tyX2 tyX2_ok nmX2 hown hK hP hD hS 0 rfl rfl 7 (by decide) hf46 (fun _ h9 => h9) rfl (by decide +kernel) rfl rfl (Nat.le_of_ble_eq_true rfl) dX2_init_77 (fun H_47 L_48 hP hD hS => ?_)
  have hP : va_P (dC, dI) vwCl [(a_this_, .inr (4, [.ref a_q_2, .ref a_q_9, .ref a_q_16, .ref a_q_21, .int 0, .ref a_q_28, .ref a_q_35, .ref a_q_42, .int 0, .int 0, .int 0, .int 0, .int 0, .int 0, .int 0])), (a_q_2, .inr (8, [.ref (u_6 0), .ref (u_6 1), .int 0])), ((u_6 0), .inl (g 0, 50, .inl (fun _ => 0))), ((u_6 1), .inl (g 0, 50, .inl (fun _ => 0))), (a_q_9, .inr (5, [.ref (u_13 0), .ref (u_13 1), .int 0, .int 2, .int 0, .int 0])), ((u_13 0), .inl (g 0, 200, .inl (fun _ => 0))), ((u_13 1), .inl (g 0, 6, .inl (fun _ => 0))), (a_q_16, .inl (g 0, 6, .inl (fun _ => 0))), (a_q_21, .inl (g 0, 6, .inl (fun _ => 0))), (a_q_28, .inr (9, [.ref (u_32 0), .ref (u_32 1), .ref (u_32 2), .int 0, .int 0])), ((u_32 0), .inl (g 0, 100, .inl (fun _ => 0))), ((u_32 1), .inl (g 0, 200, .inl (fun _ => 0))), ((u_32 2), .inl (g 0, 200, .inl (fun _ => 0))), (a_q_35, .inr (9, [.ref (u_39 0), .ref (u_39 1), .ref (u_39 2), .int 0, .int 0])), ((u_39 0), .inl (g 0, 100, .inl (fun _ => 0))), ((u_39 1), .inl (g 0, 200, .inl (fun _ => 0))), ((u_39 2), .inl (g 0, 200, .inl (fun _ => 0))), (a_q_42, .inr (9, [.ref (u_46 0), .ref (u_46 1), .ref (u_46 2), .int 0, .int 0])), ((u_46 0), .inl (g 0, 100, .inl (fun _ => 0))), ((u_46 1), .inl (g 0, 200, .inl (fun _ => 0))), ((u_46 2), .inl (g 0, 200, .inl (fun _ => 0)))] H_47 := hP
  have hD : va_D A [(a_this_, .inr (4, [.ref a_q_2, .ref a_q_9, .ref a_q_16, .ref a_q_21, .int 0, .ref a_q_28, .ref a_q_35, .ref a_q_42, .int 0, .int 0, .int 0, .int 0, .int 0, .int 0, .int 0])), (a_q_2, .inr (8, [.ref (u_6 0), .ref (u_6 1), .int 0])), ((u_6 0), .inl (g 0, 50, .inl (fun _ => 0))), ((u_6 1), .inl (g 0, 50, .inl (fun _ => 0))), (a_q_9, .inr (5, [.ref (u_13 0), .ref (u_13 1), .int 0, .int 2, .int 0, .int 0])), ((u_13 0), .inl (g 0, 200, .inl (fun _ => 0))), ((u_13 1), .inl (g 0, 6, .inl (fun _ => 0))), (a_q_16, .inl (g 0, 6, .inl (fun _ => 0))), (a_q_21, .inl (g 0, 6, .inl (fun _ => 0))), (a_q_28, .inr (9, [.ref (u_32 0), .ref (u_32 1), .ref (u_32 2), .int 0, .int 0])), ((u_32 0), .inl (g 0, 100, .inl (fun _ => 0))), ((u_32 1), .inl (g 0, 200, .inl (fun _ => 0))), ((u_32 2), .inl (g 0, 200, .inl (fun _ => 0))), (a_q_35, .inr (9, [.ref (u_39 0), .ref (u_39 1), .ref (u_39 2), .int 0, .int 0])), ((u_39 0), .inl (g 0, 100, .inl (fun _ => 0))), ((u_39 1), .inl (g 0, 200, .inl (fun _ => 0))), ((u_39 2), .inl (g 0, 200, .inl (fun _ => 0))), (a_q_42, .inr (9, [.ref (u_46 0), .ref (u_46 1), .ref (u_46 2), .int 0, .int 0])), ((u_46 0), .inl (g 0, 100, .inl (fun _ => 0))), ((u_46 1), .inl (g 0, 200, .inl (fun _ => 0))), ((u_46 2), .inl (g 0, 200, .inl (fun _ => 0)))] := hD
  refine lv_aload_n hx hb dX2_init_80 rfl (lv_at hl 0 rfl) ?_
  refine lv_iconst (v := 0) hx hb dX2_init_81 (by decide) ?_
  refine va_put (D := (dC, dI)) (ci := 4) (v := .int 0) (ty := .int) (C := RX2) (T := TX2) (N := 15) hx hb hts hiX2 tyX2 tyX2_ok nmX2 hown hK hP hD hS 0 rfl rfl 8 (by decide) hf49 (fun _ h9 => h9) rfl (by decide +kernel) rfl rfl (Nat.le_of_ble_eq_true rfl) dX2_init_82 (fun H_49 L_50 hP hD hS => ?_)
  have hP : va_P (dC, dI) vwCl [(a_this_, .inr (4, [.ref a_q_2, .ref a_q_9, .ref a_q_16, .ref a_q_21, .int 0, .ref a_q_28, .ref a_q_35, .ref a_q_42, .int 0, .int 0, .int 0, .int 0, .int 0, .int 0, .int 0])), (a_q_2, .inr (8, [.ref (u_6 0), .ref (u_6 1), .int 0])), ((u_6 0), .inl (g 0, 50, .inl (fun _ => 0))), ((u_6 1), .inl (g 0, 50, .inl (fun _ => 0))), (a_q_9, .inr (5, [.ref (u_13 0), .ref (u_13 1), .int 0, .int 2, .int 0, .int 0])), ((u_13 0), .inl (g 0, 200, .inl (fun _ => 0))), ((u_13 1), .inl (g 0, 6, .inl (fun _ => 0))), (a_q_16, .inl (g 0, 6, .inl (fun _ => 0))), (a_q_21, .inl (g 0, 6, .inl (fun _ => 0))), (a_q_28, .inr (9, [.ref (u_32 0), .ref (u_32 1), .ref (u_32 2), .int 0, .int 0])), ((u_32 0), .inl (g 0, 100, .inl (fun _ => 0))), ((u_32 1), .inl (g 0, 200, .inl (fun _ => 0))), ((u_32 2), .inl (g 0, 200, .inl (fun _ => 0))), (a_q_35, .inr (9, [.ref (u_39 0), .ref (u_39 1), .ref (u_39 2), .int 0, .int 0])), ((u_39 0), .inl (g 0, 100, .inl (fun _ => 0))), ((u_39 1), .inl (g 0, 200, .inl (fun _ => 0))), ((u_39 2), .inl (g 0, 200, .inl (fun _ => 0))), (a_q_42, .inr (9, [.ref (u_46 0), .ref (u_46 1), .ref (u_46 2), .int 0, .int 0])), ((u_46 0), .inl (g 0, 100, .inl (fun _ => 0))), ((u_46 1), .inl (g 0, 200, .inl (fun _ => 0))), ((u_46 2), .inl (g 0, 200, .inl (fun _ => 0)))] H_49 := hP
  have hD : va_D A [(a_this_, .inr (4, [.ref a_q_2, .ref a_q_9, .ref a_q_16, .ref a_q_21, .int 0, .ref a_q_28, .ref a_q_35, .ref a_q_42, .int 0, .int 0, .int 0, .int 0, .int 0, .int 0, .int 0])), (a_q_2, .inr (8, [.ref (u_6 0), .ref (u_6 1), .int 0])), ((u_6 0), .inl (g 0, 50, .inl (fun _ => 0))), ((u_6 1), .inl (g 0, 50, .inl (fun _ => 0))), (a_q_9, .inr (5, [.ref (u_13 0), .ref (u_13 1), .int 0, .int 2, .int 0, .int 0])), ((u_13 0), .inl (g 0, 200, .inl (fun _ => 0))), ((u_13 1), .inl (g 0, 6, .inl (fun _ => 0))), (a_q_16, .inl (g 0, 6, .inl (fun _ => 0))), (a_q_21, .inl (g 0, 6, .inl (fun _ => 0))), (a_q_28, .inr (9, [.ref (u_32 0), .ref (u_32 1), .ref (u_32 2), .int 0, .int 0])), ((u_32 0), .inl (g 0, 100, .inl (fun _ => 0))), ((u_32 1), .inl (g 0, 200, .inl (fun _ => 0))), ((u_32 2), .inl (g 0, 200, .inl (fun _ => 0))), (a_q_35, .inr (9, [.ref (u_39 0), .ref (u_39 1), .ref (u_39 2), .int 0, .int 0])), ((u_39 0), .inl (g 0, 100, .inl (fun _ => 0))), ((u_39 1), .inl (g 0, 200, .inl (fun _ => 0))), ((u_39 2), .inl (g 0, 200, .inl (fun _ => 0))), (a_q_42, .inr (9, [.ref (u_46 0), .ref (u_46 1), .ref (u_46 2), .int 0, .int 0])), ((u_46 0), .inl (g 0, 100, .inl (fun _ => 0))), ((u_46 1), .inl (g 0, 200, .inl (fun _ => 0))), ((u_46 2), .inl (g 0, 200, .inl (fun _ => 0)))] := hD
  refine lv_aload_n hx hb dX2_init_85 rfl (lv_at hl 0 rfl) ?_
  refine lv_iconst (v := 0) hx hb dX2_init_86 (by decide) ?_
  refine va_put (D := (dC, dI)) (ci := 4) (v := .int 0) (ty := .int) (C := RX2) (T := TX2) (N := 15) hx hb hts hiX2 tyX2 tyX2_ok nmX2 hown hK hP hD hS 0 rfl rfl 9 (by decide) hf52 (fun _ h9 => h9) rfl (by decide +kernel) rfl rfl (Nat.le_of_ble_eq_true rfl) dX2_init_87 (fun H_51 L_52 hP hD hS => ?_)
  have hP : va_P (dC, dI) vwCl [(a_this_, .inr (4, [.ref a_q_2, .ref a_q_9, .ref a_q_16, .ref a_q_21, .int 0, .ref a_q_28, .ref a_q_35, .ref a_q_42, .int 0, .int 0, .int 0, .int 0, .int 0, .int 0, .int 0])), (a_q_2, .inr (8, [.ref (u_6 0), .ref (u_6 1), .int 0])), ((u_6 0), .inl (g 0, 50, .inl (fun _ => 0))), ((u_6 1), .inl (g 0, 50, .inl (fun _ => 0))), (a_q_9, .inr (5, [.ref (u_13 0), .ref (u_13 1), .int 0, .int 2, .int 0, .int 0])), ((u_13 0), .inl (g 0, 200, .inl (fun _ => 0))), ((u_13 1), .inl (g 0, 6, .inl (fun _ => 0))), (a_q_16, .inl (g 0, 6, .inl (fun _ => 0))), (a_q_21, .inl (g 0, 6, .inl (fun _ => 0))), (a_q_28, .inr (9, [.ref (u_32 0), .ref (u_32 1), .ref (u_32 2), .int 0, .int 0])), ((u_32 0), .inl (g 0, 100, .inl (fun _ => 0))), ((u_32 1), .inl (g 0, 200, .inl (fun _ => 0))), ((u_32 2), .inl (g 0, 200, .inl (fun _ => 0))), (a_q_35, .inr (9, [.ref (u_39 0), .ref (u_39 1), .ref (u_39 2), .int 0, .int 0])), ((u_39 0), .inl (g 0, 100, .inl (fun _ => 0))), ((u_39 1), .inl (g 0, 200, .inl (fun _ => 0))), ((u_39 2), .inl (g 0, 200, .inl (fun _ => 0))), (a_q_42, .inr (9, [.ref (u_46 0), .ref (u_46 1), .ref (u_46 2), .int 0, .int 0])), ((u_46 0), .inl (g 0, 100, .inl (fun _ => 0))), ((u_46 1), .inl (g 0, 200, .inl (fun _ => 0))), ((u_46 2), .inl (g 0, 200, .inl (fun _ => 0)))] H_51 := hP
  have hD : va_D A [(a_this_, .inr (4, [.ref a_q_2, .ref a_q_9, .ref a_q_16, .ref a_q_21, .int 0, .ref a_q_28, .ref a_q_35, .ref a_q_42, .int 0, .int 0, .int 0, .int 0, .int 0, .int 0, .int 0])), (a_q_2, .inr (8, [.ref (u_6 0), .ref (u_6 1), .int 0])), ((u_6 0), .inl (g 0, 50, .inl (fun _ => 0))), ((u_6 1), .inl (g 0, 50, .inl (fun _ => 0))), (a_q_9, .inr (5, [.ref (u_13 0), .ref (u_13 1), .int 0, .int 2, .int 0, .int 0])), ((u_13 0), .inl (g 0, 200, .inl (fun _ => 0))), ((u_13 1), .inl (g 0, 6, .inl (fun _ => 0))), (a_q_16, .inl (g 0, 6, .inl (fun _ => 0))), (a_q_21, .inl (g 0, 6, .inl (fun _ => 0))), (a_q_28, .inr (9, [.ref (u_32 0), .ref (u_32 1), .ref (u_32 2), .int 0, .int 0])), ((u_32 0), .inl (g 0, 100, .inl (fun _ => 0))), ((u_32 1), .inl (g 0, 200, .inl (fun _ => 0))), ((u_32 2), .inl (g 0, 200, .inl (fun _ => 0))), (a_q_35, .inr (9, [.ref (u_39 0), .ref (u_39 1), .ref (u_39 2), .int 0, .int 0])), ((u_39 0), .inl (g 0, 100, .inl (fun _ => 0))), ((u_39 1), .inl (g 0, 200, .inl (fun _ => 0))), ((u_39 2), .inl (g 0, 200, .inl (fun _ => 0))), (a_q_42, .inr (9, [.ref (u_46 0), .ref (u_46 1), .ref (u_46 2), .int 0, .int 0])), ((u_46 0), .inl (g 0, 100, .inl (fun _ => 0))), ((u_46 1), .inl (g 0, 200, .inl (fun _ => 0))), ((u_46 2), .inl (g 0, 200, .inl (fun _ => 0)))] := hD
  refine lv_aload_n hx hb dX2_init_90 rfl (lv_at hl 0 rfl) ?_
  refine lv_iconst (v := 0) hx hb dX2_init_91 (by decide) ?_
  refine va_put (D := (dC, dI)) (ci := 4) (v := .int 0) (ty := .int) (C := RX2) (T := TX2) (N := 15) hx hb hts hiX2 tyX2 tyX2_ok nmX2 hown hK hP hD hS 0 rfl rfl 10 (by decide) hf55 (fun _ h9 => h9) rfl (by decide +kernel) rfl rfl (Nat.le_of_ble_eq_true rfl) dX2_init_92 (fun H_53 L_54 hP hD hS => ?_)
  have hP : va_P (dC, dI) vwCl [(a_this_, .inr (4, [.ref a_q_2, .ref a_q_9, .ref a_q_16, .ref a_q_21, .int 0, .ref a_q_28, .ref a_q_35, .ref a_q_42, .int 0, .int 0, .int 0, .int 0, .int 0, .int 0, .int 0])), (a_q_2, .inr (8, [.ref (u_6 0), .ref (u_6 1), .int 0])), ((u_6 0), .inl (g 0, 50, .inl (fun _ => 0))), ((u_6 1), .inl (g 0, 50, .inl (fun _ => 0))), (a_q_9, .inr (5, [.ref (u_13 0), .ref (u_13 1), .int 0, .int 2, .int 0, .int 0])), ((u_13 0), .inl (g 0, 200, .inl (fun _ => 0))), ((u_13 1), .inl (g 0, 6, .inl (fun _ => 0))), (a_q_16, .inl (g 0, 6, .inl (fun _ => 0))), (a_q_21, .inl (g 0, 6, .inl (fun _ => 0))), (a_q_28, .inr (9, [.ref (u_32 0), .ref (u_32 1), .ref (u_32 2), .int 0, .int 0])), ((u_32 0), .inl (g 0, 100, .inl (fun _ => 0))), ((u_32 1), .inl (g 0, 200, .inl (fun _ => 0))), ((u_32 2), .inl (g 0, 200, .inl (fun _ => 0))), (a_q_35, .inr (9, [.ref (u_39 0), .ref (u_39 1), .ref (u_39 2), .int 0, .int 0])), ((u_39 0), .inl (g 0, 100, .inl (fun _ => 0))), ((u_39 1), .inl (g 0, 200, .inl (fun _ => 0))), ((u_39 2), .inl (g 0, 200, .inl (fun _ => 0))), (a_q_42, .inr (9, [.ref (u_46 0), .ref (u_46 1), .ref (u_46 2), .int 0, .int 0])), ((u_46 0), .inl (g 0, 100, .inl (fun _ => 0))), ((u_46 1), .inl (g 0, 200, .inl (fun _ => 0))), ((u_46 2), .inl (g 0, 200, .inl (fun _ => 0)))] H_53 := hP
  have hD : va_D A [(a_this_, .inr (4, [.ref a_q_2, .ref a_q_9, .ref a_q_16, .ref a_q_21, .int 0, .ref a_q_28, .ref a_q_35, .ref a_q_42, .int 0, .int 0, .int 0, .int 0, .int 0, .int 0, .int 0])), (a_q_2, .inr (8, [.ref (u_6 0), .ref (u_6 1), .int 0])), ((u_6 0), .inl (g 0, 50, .inl (fun _ => 0))), ((u_6 1), .inl (g 0, 50, .inl (fun _ => 0))), (a_q_9, .inr (5, [.ref (u_13 0), .ref (u_13 1), .int 0, .int 2, .int 0, .int 0])), ((u_13 0), .inl (g 0, 200, .inl (fun _ => 0))), ((u_13 1), .inl (g 0, 6, .inl (fun _ => 0))), (a_q_16, .inl (g 0, 6, .inl (fun _ => 0))), (a_q_21, .inl (g 0, 6, .inl (fun _ => 0))), (a_q_28, .inr (9, [.ref (u_32 0), .ref (u_32 1), .ref (u_32 2), .int 0, .int 0])), ((u_32 0), .inl (g 0, 100, .inl (fun _ => 0))), ((u_32 1), .inl (g 0, 200, .inl (fun _ => 0))), ((u_32 2), .inl (g 0, 200, .inl (fun _ => 0))), (a_q_35, .inr (9, [.ref (u_39 0), .ref (u_39 1), .ref (u_39 2), .int 0, .int 0])), ((u_39 0), .inl (g 0, 100, .inl (fun _ => 0))), ((u_39 1), .inl (g 0, 200, .inl (fun _ => 0))), ((u_39 2), .inl (g 0, 200, .inl (fun _ => 0))), (a_q_42, .inr (9, [.ref (u_46 0), .ref (u_46 1), .ref (u_46 2), .int 0, .int 0])), ((u_46 0), .inl (g 0, 100, .inl (fun _ => 0))), ((u_46 1), .inl (g 0, 200, .inl (fun _ => 0))), ((u_46 2), .inl (g 0, 200, .inl (fun _ => 0)))] := hD
  refine lv_aload_n hx hb dX2_init_95 rfl (lv_at hl 0 rfl) ?_
  refine lv_iconst (v := 0) hx hb dX2_init_96 (by decide) ?_
  refine va_put (D := (dC, dI)) (ci := 4) (v := .int 0) (ty := .int) (C := RX2) (T := TX2) (N := 15) hx hb hts hiX2 tyX2 tyX2_ok nmX2 hown hK hP hD hS 0 rfl rfl 11 (by decide) hf58 (fun _ h9 => h9) rfl (by decide +kernel) rfl rfl (Nat.le_of_ble_eq_true rfl) dX2_init_97 (fun H_55 L_56 hP hD hS => ?_)
  have hP : va_P (dC, dI) vwCl [(a_this_, .inr (4, [.ref a_q_2, .ref a_q_9, .ref a_q_16, .ref a_q_21, .int 0, .ref a_q_28, .ref a_q_35, .ref a_q_42, .int 0, .int 0, .int 0, .int 0, .int 0, .int 0, .int 0])), (a_q_2, .inr (8, [.ref (u_6 0), .ref (u_6 1), .int 0])), ((u_6 0), .inl (g 0, 50, .inl (fun _ => 0))), ((u_6 1), .inl (g 0, 50, .inl (fun _ => 0))), (a_q_9, .inr (5, [.ref (u_13 0), .ref (u_13 1), .int 0, .int 2, .int 0, .int 0])), ((u_13 0), .inl (g 0, 200, .inl (fun _ => 0))), ((u_13 1), .inl (g 0, 6, .inl (fun _ => 0))), (a_q_16, .inl (g 0, 6, .inl (fun _ => 0))), (a_q_21, .inl (g 0, 6, .inl (fun _ => 0))), (a_q_28, .inr (9, [.ref (u_32 0), .ref (u_32 1), .ref (u_32 2), .int 0, .int 0])), ((u_32 0), .inl (g 0, 100, .inl (fun _ => 0))), ((u_32 1), .inl (g 0, 200, .inl (fun _ => 0))), ((u_32 2), .inl (g 0, 200, .inl (fun _ => 0))), (a_q_35, .inr (9, [.ref (u_39 0), .ref (u_39 1), .ref (u_39 2), .int 0, .int 0])), ((u_39 0), .inl (g 0, 100, .inl (fun _ => 0))), ((u_39 1), .inl (g 0, 200, .inl (fun _ => 0))), ((u_39 2), .inl (g 0, 200, .inl (fun _ => 0))), (a_q_42, .inr (9, [.ref (u_46 0), .ref (u_46 1), .ref (u_46 2), .int 0, .int 0])), ((u_46 0), .inl (g 0, 100, .inl (fun _ => 0))), ((u_46 1), .inl (g 0, 200, .inl (fun _ => 0))), ((u_46 2), .inl (g 0, 200, .inl (fun _ => 0)))] H_55 := hP
  have hD : va_D A [(a_this_, .inr (4, [.ref a_q_2, .ref a_q_9, .ref a_q_16, .ref a_q_21, .int 0, .ref a_q_28, .ref a_q_35, .ref a_q_42, .int 0, .int 0, .int 0, .int 0, .int 0, .int 0, .int 0])), (a_q_2, .inr (8, [.ref (u_6 0), .ref (u_6 1), .int 0])), ((u_6 0), .inl (g 0, 50, .inl (fun _ => 0))), ((u_6 1), .inl (g 0, 50, .inl (fun _ => 0))), (a_q_9, .inr (5, [.ref (u_13 0), .ref (u_13 1), .int 0, .int 2, .int 0, .int 0])), ((u_13 0), .inl (g 0, 200, .inl (fun _ => 0))), ((u_13 1), .inl (g 0, 6, .inl (fun _ => 0))), (a_q_16, .inl (g 0, 6, .inl (fun _ => 0))), (a_q_21, .inl (g 0, 6, .inl (fun _ => 0))), (a_q_28, .inr (9, [.ref (u_32 0), .ref (u_32 1), .ref (u_32 2), .int 0, .int 0])), ((u_32 0), .inl (g 0, 100, .inl (fun _ => 0))), ((u_32 1), .inl (g 0, 200, .inl (fun _ => 0))), ((u_32 2), .inl (g 0, 200, .inl (fun _ => 0))), (a_q_35, .inr (9, [.ref (u_39 0), .ref (u_39 1), .ref (u_39 2), .int 0, .int 0])), ((u_39 0), .inl (g 0, 100, .inl (fun _ => 0))), ((u_39 1), .inl (g 0, 200, .inl (fun _ => 0))), ((u_39 2), .inl (g 0, 200, .inl (fun _ => 0))), (a_q_42, .inr (9, [.ref (u_46 0), .ref (u_46 1), .ref (u_46 2), .int 0, .int 0])), ((u_46 0), .inl (g 0, 100, .inl (fun _ => 0))), ((u_46 1), .inl (g 0, 200, .inl (fun _ => 0))), ((u_46 2), .inl (g 0, 200, .inl (fun _ => 0)))] := hD
  refine lv_aload_n hx hb dX2_init_100 rfl (lv_at hl 0 rfl) ?_
  refine lv_iconst (v := 0) hx hb dX2_init_101 (by decide) ?_
  refine va_put (D := (dC, dI)) (ci := 4) (v := .int 0) (ty := .int) (C := RX2) (T := TX2) (N := 15) hx hb hts hiX2 tyX2 tyX2_ok nmX2 hown hK hP hD hS 0 rfl rfl 12 (by decide) hf61 (fun _ h9 => h9) rfl (by decide +kernel) rfl rfl (Nat.le_of_ble_eq_true rfl) dX2_init_102 (fun H_57 L_58 hP hD hS => ?_)
  have hP : va_P (dC, dI) vwCl [(a_this_, .inr (4, [.ref a_q_2, .ref a_q_9, .ref a_q_16, .ref a_q_21, .int 0, .ref a_q_28, .ref a_q_35, .ref a_q_42, .int 0, .int 0, .int 0, .int 0, .int 0, .int 0, .int 0])), (a_q_2, .inr (8, [.ref (u_6 0), .ref (u_6 1), .int 0])), ((u_6 0), .inl (g 0, 50, .inl (fun _ => 0))), ((u_6 1), .inl (g 0, 50, .inl (fun _ => 0))), (a_q_9, .inr (5, [.ref (u_13 0), .ref (u_13 1), .int 0, .int 2, .int 0, .int 0])), ((u_13 0), .inl (g 0, 200, .inl (fun _ => 0))), ((u_13 1), .inl (g 0, 6, .inl (fun _ => 0))), (a_q_16, .inl (g 0, 6, .inl (fun _ => 0))), (a_q_21, .inl (g 0, 6, .inl (fun _ => 0))), (a_q_28, .inr (9, [.ref (u_32 0), .ref (u_32 1), .ref (u_32 2), .int 0, .int 0])), ((u_32 0), .inl (g 0, 100, .inl (fun _ => 0))), ((u_32 1), .inl (g 0, 200, .inl (fun _ => 0))), ((u_32 2), .inl (g 0, 200, .inl (fun _ => 0))), (a_q_35, .inr (9, [.ref (u_39 0), .ref (u_39 1), .ref (u_39 2), .int 0, .int 0])), ((u_39 0), .inl (g 0, 100, .inl (fun _ => 0))), ((u_39 1), .inl (g 0, 200, .inl (fun _ => 0))), ((u_39 2), .inl (g 0, 200, .inl (fun _ => 0))), (a_q_42, .inr (9, [.ref (u_46 0), .ref (u_46 1), .ref (u_46 2), .int 0, .int 0])), ((u_46 0), .inl (g 0, 100, .inl (fun _ => 0))), ((u_46 1), .inl (g 0, 200, .inl (fun _ => 0))), ((u_46 2), .inl (g 0, 200, .inl (fun _ => 0)))] H_57 := hP
  have hD : va_D A [(a_this_, .inr (4, [.ref a_q_2, .ref a_q_9, .ref a_q_16, .ref a_q_21, .int 0, .ref a_q_28, .ref a_q_35, .ref a_q_42, .int 0, .int 0, .int 0, .int 0, .int 0, .int 0, .int 0])), (a_q_2, .inr (8, [.ref (u_6 0), .ref (u_6 1), .int 0])), ((u_6 0), .inl (g 0, 50, .inl (fun _ => 0))), ((u_6 1), .inl (g 0, 50, .inl (fun _ => 0))), (a_q_9, .inr (5, [.ref (u_13 0), .ref (u_13 1), .int 0, .int 2, .int 0, .int 0])), ((u_13 0), .inl (g 0, 200, .inl (fun _ => 0))), ((u_13 1), .inl (g 0, 6, .inl (fun _ => 0))), (a_q_16, .inl (g 0, 6, .inl (fun _ => 0))), (a_q_21, .inl (g 0, 6, .inl (fun _ => 0))), (a_q_28, .inr (9, [.ref (u_32 0), .ref (u_32 1), .ref (u_32 2), .int 0, .int 0])), ((u_32 0), .inl (g 0, 100, .inl (fun _ => 0))), ((u_32 1), .inl (g 0, 200, .inl (fun _ => 0))), ((u_32 2), .inl (g 0, 200, .inl (fun _ => 0))), (a_q_35, .inr (9, [.ref (u_39 0), .ref (u_39 1), .ref (u_39 2), .int 0, .int 0])), ((u_39 0), .inl (g 0, 100, .inl (fun _ => 0))), ((u_39 1), .inl (g 0, 200, .inl (fun _ => 0))), ((u_39 2), .inl (g 0, 200, .inl (fun _ => 0))), (a_q_42, .inr (9, [.ref (u_46 0), .ref (u_46 1), .ref (u_46 2), .int 0, .int 0])), ((u_46 0), .inl (g 0, 100, .inl (fun _ => 0))), ((u_46 1), .inl (g 0, 200, .inl (fun _ => 0))), ((u_46 2), .inl (g 0, 200, .inl (fun _ => 0)))] := hD
  refine lv_aload_n hx hb dX2_init_105 rfl (lv_at hl 0 rfl) ?_
  refine lv_iconst (v := 0) hx hb dX2_init_106 (by decide) ?_
  refine va_put (D := (dC, dI)) (ci := 4) (v := .int 0) (ty := .int) (C := RX2) (T := TX2) (N := 15) hx hb hts hiX2 tyX2 tyX2_ok nmX2 hown hK hP hD hS 0 rfl rfl 13 (by decide) hf64 (fun _ h9 => h9) rfl (by decide +kernel) rfl rfl (Nat.le_of_ble_eq_true rfl) dX2_init_107 (fun H_59 L_60 hP hD hS => ?_)
  have hP : va_P (dC, dI) vwCl [(a_this_, .inr (4, [.ref a_q_2, .ref a_q_9, .ref a_q_16, .ref a_q_21, .int 0, .ref a_q_28, .ref a_q_35, .ref a_q_42, .int 0, .int 0, .int 0, .int 0, .int 0, .int 0, .int 0])), (a_q_2, .inr (8, [.ref (u_6 0), .ref (u_6 1), .int 0])), ((u_6 0), .inl (g 0, 50, .inl (fun _ => 0))), ((u_6 1), .inl (g 0, 50, .inl (fun _ => 0))), (a_q_9, .inr (5, [.ref (u_13 0), .ref (u_13 1), .int 0, .int 2, .int 0, .int 0])), ((u_13 0), .inl (g 0, 200, .inl (fun _ => 0))), ((u_13 1), .inl (g 0, 6, .inl (fun _ => 0))), (a_q_16, .inl (g 0, 6, .inl (fun _ => 0))), (a_q_21, .inl (g 0, 6, .inl (fun _ => 0))), (a_q_28, .inr (9, [.ref (u_32 0), .ref (u_32 1), .ref (u_32 2), .int 0, .int 0])), ((u_32 0), .inl (g 0, 100, .inl (fun _ => 0))), ((u_32 1), .inl (g 0, 200, .inl (fun _ => 0))), ((u_32 2), .inl (g 0, 200, .inl (fun _ => 0))), (a_q_35, .inr (9, [.ref (u_39 0), .ref (u_39 1), .ref (u_39 2), .int 0, .int 0])), ((u_39 0), .inl (g 0, 100, .inl (fun _ => 0))), ((u_39 1), .inl (g 0, 200, .inl (fun _ => 0))), ((u_39 2), .inl (g 0, 200, .inl (fun _ => 0))), (a_q_42, .inr (9, [.ref (u_46 0), .ref (u_46 1), .ref (u_46 2), .int 0, .int 0])), ((u_46 0), .inl (g 0, 100, .inl (fun _ => 0))), ((u_46 1), .inl (g 0, 200, .inl (fun _ => 0))), ((u_46 2), .inl (g 0, 200, .inl (fun _ => 0)))] H_59 := hP
  have hD : va_D A [(a_this_, .inr (4, [.ref a_q_2, .ref a_q_9, .ref a_q_16, .ref a_q_21, .int 0, .ref a_q_28, .ref a_q_35, .ref a_q_42, .int 0, .int 0, .int 0, .int 0, .int 0, .int 0, .int 0])), (a_q_2, .inr (8, [.ref (u_6 0), .ref (u_6 1), .int 0])), ((u_6 0), .inl (g 0, 50, .inl (fun _ => 0))), ((u_6 1), .inl (g 0, 50, .inl (fun _ => 0))), (a_q_9, .inr (5, [.ref (u_13 0), .ref (u_13 1), .int 0, .int 2, .int 0, .int 0])), ((u_13 0), .inl (g 0, 200, .inl (fun _ => 0))), ((u_13 1), .inl (g 0, 6, .inl (fun _ => 0))), (a_q_16, .inl (g 0, 6, .inl (fun _ => 0))), (a_q_21, .inl (g 0, 6, .inl (fun _ => 0))), (a_q_28, .inr (9, [.ref (u_32 0), .ref (u_32 1), .ref (u_32 2), .int 0, .int 0])), ((u_32 0), .inl (g 0, 100, .inl (fun _ => 0))), ((u_32 1), .inl (g 0, 200, .inl (fun _ => 0))), ((u_32 2), .inl (g 0, 200, .inl (fun _ => 0))), (a_q_35, .inr (9, [.ref (u_39 0), .ref (u_39 1), .ref (u_39 2), .int 0, .int 0])), ((u_39 0), .inl (g 0, 100, .inl (fun _ => 0))), ((u_39 1), .inl (g 0, 200, .inl (fun _ => 0))), ((u_39 2), .inl (g 0, 200, .inl (fun _ => 0))), (a_q_42, .inr (9, [.ref (u_46 0), .ref (u_46 1), .ref (u_46 2), .int 0, .int 0])), ((u_46 0), .inl (g 0, 100, .inl (fun _ => 0))), ((u_46 1), .inl (g 0, 200, .inl (fun _ => 0))), ((u_46 2), .inl (g 0, 200, .inl (fun _ => 0)))] := hD
  refine lv_aload_n hx hb dX2_init_110 rfl (lv_at hl 0 rfl) ?_
  refine lv_iconst (v := 0) hx hb dX2_init_111 (by decide) ?_
  refine va_put (D := (dC, dI)) (ci := 4) (v := .int 0) (ty := .int) (C := RX2) (T := TX2) (N := 15) hx hb hts hiX2 tyX2 tyX2_ok nmX2 hown hK hP hD hS 0 rfl rfl 14 (by decide) hf67 (fun _ h9 => h9) rfl (by decide +kernel) rfl rfl (Nat.le_of_ble_eq_true rfl) dX2_init_112 (fun H_61 L_62 hP hD hS => ?_)
  have hP : va_P (dC, dI) vwCl [(a_this_, .inr (4, [.ref a_q_2, .ref a_q_9, .ref a_q_16, .ref a_q_21, .int 0, .ref a_q_28, .ref a_q_35, .ref a_q_42, .int 0, .int 0, .int 0, .int 0, .int 0, .int 0, .int 0])), (a_q_2, .inr (8, [.ref (u_6 0), .ref (u_6 1), .int 0])), ((u_6 0), .inl (g 0, 50, .inl (fun _ => 0))), ((u_6 1), .inl (g 0, 50, .inl (fun _ => 0))), (a_q_9, .inr (5, [.ref (u_13 0), .ref (u_13 1), .int 0, .int 2, .int 0, .int 0])), ((u_13 0), .inl (g 0, 200, .inl (fun _ => 0))), ((u_13 1), .inl (g 0, 6, .inl (fun _ => 0))), (a_q_16, .inl (g 0, 6, .inl (fun _ => 0))), (a_q_21, .inl (g 0, 6, .inl (fun _ => 0))), (a_q_28, .inr (9, [.ref (u_32 0), .ref (u_32 1), .ref (u_32 2), .int 0, .int 0])), ((u_32 0), .inl (g 0, 100, .inl (fun _ => 0))), ((u_32 1), .inl (g 0, 200, .inl (fun _ => 0))), ((u_32 2), .inl (g 0, 200, .inl (fun _ => 0))), (a_q_35, .inr (9, [.ref (u_39 0), .ref (u_39 1), .ref (u_39 2), .int 0, .int 0])), ((u_39 0), .inl (g 0, 100, .inl (fun _ => 0))), ((u_39 1), .inl (g 0, 200, .inl (fun _ => 0))), ((u_39 2), .inl (g 0, 200, .inl (fun _ => 0))), (a_q_42, .inr (9, [.ref (u_46 0), .ref (u_46 1), .ref (u_46 2), .int 0, .int 0])), ((u_46 0), .inl (g 0, 100, .inl (fun _ => 0))), ((u_46 1), .inl (g 0, 200, .inl (fun _ => 0))), ((u_46 2), .inl (g 0, 200, .inl (fun _ => 0)))] H_61 := hP
  have hD : va_D A [(a_this_, .inr (4, [.ref a_q_2, .ref a_q_9, .ref a_q_16, .ref a_q_21, .int 0, .ref a_q_28, .ref a_q_35, .ref a_q_42, .int 0, .int 0, .int 0, .int 0, .int 0, .int 0, .int 0])), (a_q_2, .inr (8, [.ref (u_6 0), .ref (u_6 1), .int 0])), ((u_6 0), .inl (g 0, 50, .inl (fun _ => 0))), ((u_6 1), .inl (g 0, 50, .inl (fun _ => 0))), (a_q_9, .inr (5, [.ref (u_13 0), .ref (u_13 1), .int 0, .int 2, .int 0, .int 0])), ((u_13 0), .inl (g 0, 200, .inl (fun _ => 0))), ((u_13 1), .inl (g 0, 6, .inl (fun _ => 0))), (a_q_16, .inl (g 0, 6, .inl (fun _ => 0))), (a_q_21, .inl (g 0, 6, .inl (fun _ => 0))), (a_q_28, .inr (9, [.ref (u_32 0), .ref (u_32 1), .ref (u_32 2), .int 0, .int 0])), ((u_32 0), .inl (g 0, 100, .inl (fun _ => 0))), ((u_32 1), .inl (g 0, 200, .inl (fun _ => 0))), ((u_32 2), .inl (g 0, 200, .inl (fun _ => 0))), (a_q_35, .inr (9, [.ref (u_39 0), .ref (u_39 1), .ref (u_39 2), .int 0, .int 0])), ((u_39 0), .inl (g 0, 100, .inl (fun _ => 0))), ((u_39 1), .inl (g 0, 200, .inl (fun _ => 0))), ((u_39 2), .inl (g 0, 200, .inl (fun _ => 0))), (a_q_42, .inr (9, [.ref (u_46 0), .ref (u_46 1), .ref (u_46 2), .int 0, .int 0])), ((u_46 0), .inl (g 0, 100, .inl (fun _ => 0))), ((u_46 1), .inl (g 0, 200, .inl (fun _ => 0))), ((u_46 2), .inl (g 0, 200, .inl (fun _ => 0)))] := hD
  refine W.widen (k := 20) (n := 1842) (by omega) (by omega) ?_
  exact W.vret hx hb hr (fun t ht hW => ⟨⟨((fun j => ([a_q_2, (u_6 0), (u_6 1), a_q_9, (u_13 0), (u_13 1), a_q_16, a_q_21, a_q_28, (u_32 0), (u_32 1), (u_32 2), a_q_35, (u_39 0), (u_39 1), (u_39 2), a_q_42, (u_46 0), (u_46 1), (u_46 2)] : List Nat).getD j 0), ()), rfl, hw, ⟨P_at ht hP, hD⟩⟩, hS.F ht⟩) hS.2.2 dX2_init_115
theorem dX5_init_0 : decode cX5_init 0 = .ok (.aload_n 0, 1) := by decide +kernel
theorem dX5_init_1 : decode cX5_init 1 = .ok (.invokespecial 3, 3) := by decide +kernel
theorem dX5_init_4 : decode cX5_init 4 = .ok (.aload_n 0, 1) := by decide +kernel
theorem dX5_init_5 : decode cX5_init 5 = .ok (.new 9, 3) := by decide +kernel
theorem dX5_init_8 : decode cX5_init 8 = .ok (.dup, 1) := by decide +kernel
theorem dX5_init_9 : decode cX5_init 9 = .ok (.invokespecial 11, 3) := by decide +kernel
theorem dX5_init_12 : decode cX5_init 12 = .ok (.putfield 12, 3) := by decide +kernel
theorem dX5_init_15 : decode cX5_init 15 = .ok (.aload_n 0, 1) := by decide +kernel
theorem dX5_init_16 : decode cX5_init 16 = .ok (.iconst 3, 1) := by decide +kernel
theorem dX5_init_17 : decode cX5_init 17 = .ok (.newarray .int, 2) := by decide +kernel
theorem dX5_init_19 : decode cX5_init 19 = .ok (.putfield 18, 3) := by decide +kernel
theorem dX5_init_22 : decode cX5_init 22 = .ok (.aload_n 0, 1) := by decide +kernel
theorem dX5_init_23 : decode cX5_init 23 = .ok (.new 22, 3) := by decide +kernel
theorem dX5_init_26 : decode cX5_init 26 = .ok (.dup, 1) := by decide +kernel
theorem dX5_init_27 : decode cX5_init 27 = .ok (.invokespecial 24, 3) := by decide +kernel
theorem dX5_init_30 : decode cX5_init 30 = .ok (.putfield 25, 3) := by decide +kernel
theorem dX5_init_33 : decode cX5_init 33 = .ok (.aload_n 0, 1) := by decide +kernel
theorem dX5_init_34 : decode cX5_init 34 = .ok (.iconst 0, 1) := by decide +kernel
theorem dX5_init_35 : decode cX5_init 35 = .ok (.putfield 29, 3) := by decide +kernel
theorem dX5_init_38 : decode cX5_init 38 = .ok (.aload_n 0, 1) := by decide +kernel
theorem dX5_init_39 : decode cX5_init 39 = .ok (.iconst 0, 1) := by decide +kernel
theorem dX5_init_40 : decode cX5_init 40 = .ok (.putfield 33, 3) := by decide +kernel
theorem dX5_init_43 : decode cX5_init 43 = .ok (.aload_n 0, 1) := by decide +kernel
theorem dX5_init_44 : decode cX5_init 44 = .ok (.iconst 0, 1) := by decide +kernel
theorem dX5_init_45 : decode cX5_init 45 = .ok (.putfield 36, 3) := by decide +kernel
theorem dX5_init_48 : decode cX5_init 48 = .ok (.aload_n 0, 1) := by decide +kernel
theorem dX5_init_49 : decode cX5_init 49 = .ok (.iconst 0, 1) := by decide +kernel
theorem dX5_init_50 : decode cX5_init 50 = .ok (.putfield 39, 3) := by decide +kernel
theorem dX5_init_53 : decode cX5_init 53 = .ok (.aload_n 0, 1) := by decide +kernel
theorem dX5_init_54 : decode cX5_init 54 = .ok (.iconst 0, 1) := by decide +kernel
theorem dX5_init_55 : decode cX5_init 55 = .ok (.putfield 42, 3) := by decide +kernel
theorem dX5_init_58 : decode cX5_init 58 = .ok (.aload_n 0, 1) := by decide +kernel
theorem dX5_init_59 : decode cX5_init 59 = .ok (.iconst 0, 1) := by decide +kernel
theorem dX5_init_60 : decode cX5_init 60 = .ok (.putfield 45, 3) := by decide +kernel
theorem dX5_init_63 : decode cX5_init 63 = .ok (.aload_n 0, 1) := by decide +kernel
theorem dX5_init_64 : decode cX5_init 64 = .ok (.iconst 0, 1) := by decide +kernel
theorem dX5_init_65 : decode cX5_init 65 = .ok (.putfield 48, 3) := by decide +kernel
theorem dX5_init_68 : decode cX5_init 68 = .ok (.aload_n 0, 1) := by decide +kernel
theorem dX5_init_69 : decode cX5_init 69 = .ok (.iconst 0, 1) := by decide +kernel
theorem dX5_init_70 : decode cX5_init 70 = .ok (.putfield 51, 3) := by decide +kernel
theorem dX5_init_73 : decode cX5_init 73 = .ok (.aload_n 0, 1) := by decide +kernel
theorem dX5_init_74 : decode cX5_init 74 = .ok (.iconst 0, 1) := by decide +kernel
theorem dX5_init_75 : decode cX5_init 75 = .ok (.putfield 55, 3) := by decide +kernel
theorem dX5_init_78 : decode cX5_init 78 = .ok (.aload_n 0, 1) := by decide +kernel
theorem dX5_init_79 : decode cX5_init 79 = .ok (.iconst (-1), 1) := by decide +kernel
theorem dX5_init_80 : decode cX5_init 80 = .ok (.putfield 58, 3) := by decide +kernel
theorem dX5_init_83 : decode cX5_init 83 = .ok (.return_, 1) := by decide +kernel

set_option maxHeartbeats 8000000 in
set_option maxRecDepth 100000 in
theorem c_X5_init (l : Launch) (dC : Nat → ClassId) (dI : Nat → Nat → Nat) (g : Nat → ClassId) (a_this_ : Nat) (Q : Prop) (hw : wp_X5_init Q) (sz : Nat) : Met l yX5_init wqX5_init ({ frames := 2, cells := 4, slots := 170, locals := 32 }) (va_Pc [.ref a_this_] (PG (dC, dI) g [(a_this_, .inr (7, [.null, .null, .null, .int 0, .int 0, .int 0, .int 0, .int 0, .int 0, .int 0, .int 0, .int 0, .int 0]))] sz)) (va_Qv (fun (u : (Nat → Nat) × Unit) => Q) (fun (u : (Nat → Nat) × Unit) t9 => va_P (dC, dI) vwCl (sh_X5 a_this_ u.1 g) t9.heap ∧ va_D (va_A [(a_this_, .inr (7, [.null, .null, .null, .int 0, .int 0, .int 0, .int 0, .int 0, .int 0, .int 0, .int 0, .int 0, .int 0]))] sz) (sh_X5 a_this_ u.1 g)) (va_A [(a_this_, .inr (7, [.null, .null, .null, .int 0, .int 0, .int 0, .int 0, .int 0, .int 0, .int 0, .int 0, .int 0, .int 0]))] sz)) 4 170 (va_A [(a_this_, .inr (7, [.null, .null, .null, .int 0, .int 0, .int 0, .int 0, .int 0, .int 0, .int 0, .int 0, .int 0, .int 0]))] sz) := by
  refine Met.ofW (cc := cX5_init) (maxL := 1) (ret := none) (by decide) rfl ?_
  intro p e s m args below meth c s₁ B hml hv
  obtain ⟨rfl, hsz, hP, hK, hD0, hG⟩ := hv
  have hx := B.exec
  have hb := B.bytes
  have hr := B.returns
  have hts := atoms_spec (ws := wqX5_init) B.pre
  have hown : s.vm.findClass RX5 = some m.cls := findClass_of_methodNamed B.named
  have hlocks := B.notSynchronized
  subst hsz
  have hD := hD0.self (sz := s.heap.size)
  generalize hAe : va_A [(a_this_, .inr (7, [.null, .null, .null, .int 0, .int 0, .int 0, .int 0, .int 0, .int 0, .int 0, .int 0, .int 0, .int 0]))] s.heap.size = A at hD hG ⊢
  have hA : ∀ q : Nat, s.heap.size ≤ q → A q := fun q h => by rw [← hAe]; exact Or.inr h
  have hS : va_S A s.heap s.heap [] := va_S.rf
  have hrc : (headSpec wqX5_init ({ frames := 2, cells := 4, slots := 170, locals := 32 })).room.cells = 4 := rfl
  have hrs : (headSpec wqX5_init ({ frames := 2, cells := 4, slots := 170, locals := 32 })).room.slots = 170 := rfl
  have hin : meth.name = "<init>" := (name_of_methodNamed B.named B.method).1
  have hl := lv_entry ([.ref a_this_]) (n := 1) (Nat.le_of_ble_eq_true rfl)
  rw [lg_entry_eq]
  generalize (lg_sl ([.ref a_this_]) ++ List.replicate (1 - (lg_sl ([.ref a_this_])).length) Slot.unset).toArray = ls at hl ⊢
  have hl : lv_has ls 1 [(0, .ref a_this_)] := hl
  unfold wp_X5_init at hw
  have hml3 := hts (Cond.methodLink RX5 3 objectInit) (aw_l aw_2_60)
  have hoi := hts (Cond.instanceMethod objectInit) (aw_l aw_1_38)
  have hoc := hts (Cond.code objectInit ⟨#[0xb1]⟩ 1 none) (aw_l aw_1_39)
  have hcl9 := hts (Cond.classLink RX5 9 RX10) (aw_l aw_2_61)
  have hinX10 := hts (Cond.instantiable RX10 2) (aw_l aw_2_62)
  have hiniX10 := hts (Cond.initialized RX10) (aw_l aw_1_11)
  have hiX10 : ∀ w ∈ u_ws RX10 TX10 2, w ∈ wqX5_init := fun w h => aw_l (aw_wsX100 w h)
  have himX10_init := hts (Cond.instanceMethod yX10_init) (aw_l aw_2_64)
  have hf12 := hts (Cond.fieldLink RX5 12 "RunmergeOffice$Reader" "text" "LRunmergeOffice$Text;") (aw_l aw_2_78)
  have hiX5 : ∀ w ∈ u_ws RX5 TX5 13, w ∈ wqX5_init := fun w h => aw_l (aw_wsX50 w h)
  have hnaint := hts (Cond.arrayClass .int) (aw_l aw_1_57)
  have hf18 := hts (Cond.fieldLink RX5 18 "RunmergeOffice$Reader" "operands" "[I") (aw_l aw_2_80)
  have hcl22 := hts (Cond.classLink RX5 22 RX8) (aw_l aw_2_76)
  have hinX8 := hts (Cond.instantiable RX8 5) (aw_l aw_1_77)
  have hiniX8 := hts (Cond.initialized RX8) (aw_l aw_1_4)
  have hiX8 : ∀ w ∈ u_ws RX8 TX8 5, w ∈ wqX5_init := fun w h => aw_l (aw_wsX80 w h)
  have himX8_init := hts (Cond.instanceMethod yX8_init) (aw_l aw_1_79)
  have hf25 := hts (Cond.fieldLink RX5 25 "RunmergeOffice$Reader" "told" "LRunmergeOffice$Settings;") (aw_l aw_2_81)
  have hf29 := hts (Cond.fieldLink RX5 29 "RunmergeOffice$Reader" "wordKind" "I") (aw_l aw_2_83)
  have hf33 := hts (Cond.fieldLink RX5 33 "RunmergeOffice$Reader" "wordPlace" "I") (aw_l aw_2_84)
  have hf36 := hts (Cond.fieldLink RX5 36 "RunmergeOffice$Reader" "wordEnd" "I") (aw_l aw_2_85)
  have hf39 := hts (Cond.fieldLink RX5 39 "RunmergeOffice$Reader" "number" "I") (aw_l aw_2_86)
  have hf42 := hts (Cond.fieldLink RX5 42 "RunmergeOffice$Reader" "statementPlace" "I") (aw_l aw_2_87)
  have hf45 := hts (Cond.fieldLink RX5 45 "RunmergeOffice$Reader" "action" "I") (aw_l aw_2_89)
  have hf48 := hts (Cond.fieldLink RX5 48 "RunmergeOffice$Reader" "how" "I") (aw_l aw_2_91)
  have hf51 := hts (Cond.fieldLink RX5 51 "RunmergeOffice$Reader" "isLast" "Z") (aw_l aw_2_93)
  have hf55 := hts (Cond.fieldLink RX5 55 "RunmergeOffice$Reader" "faultKind" "I") (aw_l aw_2_95)
  have hf58 := hts (Cond.fieldLink RX5 58 "RunmergeOffice$Reader" "faultPlace" "I") (aw_l aw_2_97)
  refine lv_aload_n hx hb dX5_init_0 rfl (lv_at hl 0 rfl) ?_
  refine W.objInit hx hb hown hml3 hoi hoc rfl (by rw [hml]; exact hl.1) rfl dX5_init_1 (Nat.le_of_ble_eq_true rfl) (Nat.le_of_ble_eq_true rfl) ?_
  refine W.eq (g2 := F0 m 4 ls []) rfl ?_
  refine lv_aload_n hx hb dX5_init_4 rfl (lv_at hl 0 rfl) ?_
  refine va_new (ci := 12) (fs := [.null, .int 0]) (C := RX10) (T := TX10) (N := 2) hx hb hts hiX10 tyX10 tyX10_ok hown hcl9 hinX10 hiniX10 hK hP hD hS hA rfl (fun j hj => by rcases (show j = 0 ∨ j = 1 by omega) with rfl | rfl <;> rfl) (by rw [hrc]; omega) (by rw [hrs]; omega) dX5_init_5 (fun a_q_2 H_3 hP hD hS => ?_)
  obtain ⟨hP, hD⟩ := seg_join [[(a_this_, .inr (7, [.null, .null, .null, .int 0, .int 0, .int 0, .int 0, .int 0, .int 0, .int 0, .int 0, .int 0, .int 0]))]] [[(a_q_2, .inr (12, [.null, .int 0]))]] [[(a_this_, .inr (7, [.null, .null, .null, .int 0, .int 0, .int 0, .int 0, .int 0, .int 0, .int 0, .int 0, .int 0, .int 0]))], [(a_q_2, .inr (12, [.null, .int 0]))]] 2 [0, 1] rfl rfl (by decide) hP hD
  have hP : va_P (dC, dI) vwCl [(a_this_, .inr (7, [.null, .null, .null, .int 0, .int 0, .int 0, .int 0, .int 0, .int 0, .int 0, .int 0, .int 0, .int 0])), (a_q_2, .inr (12, [.null, .int 0]))] H_3 := hP
  have hD : va_D A [(a_this_, .inr (7, [.null, .null, .null, .int 0, .int 0, .int 0, .int 0, .int 0, .int 0, .int 0, .int 0, .int 0, .int 0])), (a_q_2, .inr (12, [.null, .int 0]))] := hD
  refine W.widen (k := 1) (n := 2) (by omega) (by omega) ?_
  refine lv_dup hx hb dX5_init_8 rfl ?_
  obtain ⟨hPs, hDs⟩ := seg_call (segs := [[(a_this_, .inr (7, [.null, .null, .null, .int 0, .int 0, .int 0, .int 0, .int 0, .int 0, .int 0, .int 0, .int 0, .int 0]))], [(a_q_2, .inr (12, [.null, .int 0]))]]) [[(a_this_, .inr (7, [.null, .null, .null, .int 0, .int 0, .int 0, .int 0, .int 0, .int 0, .int 0, .int 0, .int 0, .int 0]))]] [[(a_q_2, .inr (12, [.null, .int 0]))]] 2 [0, 1] rfl rfl (by decide) hP hD
  have hPc : va_P (dC, dI) vwCl [(a_q_2, .inr (12, [.null, .int 0]))] H_3 := P_r hPs
  have hDc : va_D A [(a_q_2, .inr (12, [.null, .int 0]))] := D_r hDs
  have hFc : ∀ q, va_A [(a_q_2, .inr (12, [.null, .int 0]))] H_3.size q → A q := A_all hDc hA hS.1
  refine va_callv (va_runIN (As := []) (rest := [.ref a_q_2, .ref a_this_]) ⟨hx, hb, hml, hown, hts⟩ (c_X10_init l dC dI g (a_this_ := a_q_2) (hw := hw) (sz := H_3.size)) ⟨va_cnB 0 hts (gq0 aw_2_65) rfl rfl rfl (mnl_12 hG) hiniX10 (by decide +kernel) ⟨Nat.le_of_ble_eq_true rfl, Nat.le_of_ble_eq_true rfl⟩, rfl, himX10_init⟩ ⟨PG_blind, PG_call hK hG hS hPc hDc hFc⟩ rfl rfl hl.1 rfl (lv_room (Nat.le_of_ble_eq_true rfl)) dX5_init_9 ⟨by rw [hrc]; omega, by rw [hrs]; omega⟩) hS (fun q _ h => hFc q h) hFc (fun u_5 t_5 H_5 L_5 ht_5 hvm_5 hw_5 hB_5 hz_5 hk_5 hS => ?_)
  obtain ⟨u_6, u_5⟩ := u_5
  have hw := hw_5
  rw [ht_5] at hB_5
  obtain ⟨hP1, hD1⟩ := hB_5
  obtain ⟨hP, hD⟩ := join_r hPs hDs hk_5 hFc hP1 hD1
  obtain ⟨hP, hD⟩ := seg_join [[(a_this_, .inr (7, [.null, .null, .null, .int 0, .int 0, .int 0, .int 0, .int 0, .int 0, .int 0, .int 0, .int 0, .int 0]))]] [[(a_q_2, .inr (12, [.ref (u_6 0), .int 0]))], [((u_6 0), .inl (g 0, 160, .inl (fun _ => 0)))]] [[(a_this_, .inr (7, [.null, .null, .null, .int 0, .int 0, .int 0, .int 0, .int 0, .int 0, .int 0, .int 0, .int 0, .int 0]))], [(a_q_2, .inr (12, [.ref (u_6 0), .int 0]))], [((u_6 0), .inl (g 0, 160, .inl (fun _ => 0)))]] 3 [0, 1, 2] rfl rfl (by decide) hP hD
  have hP : va_P (dC, dI) vwCl [(a_this_, .inr (7, [.null, .null, .null, .int 0, .int 0, .int 0, .int 0, .int 0, .int 0, .int 0, .int 0, .int 0, .int 0])), (a_q_2, .inr (12, [.ref (u_6 0), .int 0])), ((u_6 0), .inl (g 0, 160, .inl (fun _ => 0)))] H_5 := hP
  have hD : va_D A [(a_this_, .inr (7, [.null, .null, .null, .int 0, .int 0, .int 0, .int 0, .int 0, .int 0, .int 0, .int 0, .int 0, .int 0])), (a_q_2, .inr (12, [.ref (u_6 0), .int 0])), ((u_6 0), .inl (g 0, 160, .inl (fun _ => 0)))] := hD
  refine W.widen (k := 2) (n := 162) (by omega) (by omega) ?_
  refine va_putF (D := (dC, dI)) (ci := 7) (v := .ref a_q_2) (ty := .object "RunmergeOffice$Text") (C := RX5) (T := TX5) (N := 13) hx hb hts hiX5 tyX5 tyX5_ok nmX5 hown hK hP hD hS 0 rfl rfl 0 (by decide) hf12 (fun _ h9 => h9) rfl hin rfl (by decide +kernel) rfl rfl (Nat.le_of_ble_eq_true rfl) dX5_init_12 (fun H_7 L_8 hP hD hS => ?_)
  have hP : va_P (dC, dI) vwCl [(a_this_, .inr (7, [.ref a_q_2, .null, .null, .int 0, .int 0, .int 0, .int 0, .int 0, .int 0, .int 0, .int 0, .int 0, .int 0])), (a_q_2, .inr (12, [.ref (u_6 0), .int 0])), ((u_6 0), .inl (g 0, 160, .inl (fun _ => 0)))] H_7 := hP
  have hD : va_D A [(a_this_, .inr (7, [.ref a_q_2, .null, .null, .int 0, .int 0, .int 0, .int 0, .int 0, .int 0, .int 0, .int 0, .int 0, .int 0])), (a_q_2, .inr (12, [.ref (u_6 0), .int 0])), ((u_6 0), .inl (g 0, 160, .inl (fun _ => 0)))] := hD
  refine lv_aload_n hx hb dX5_init_15 rfl (lv_at hl 0 rfl) ?_
  refine lv_iconst (v := 3) hx hb dX5_init_16 (by decide) ?_
  refine va_newa (atype := .int) (a0 := (3, .inl (fun _ => 0))) hx hb hnaint rfl hK hP hD hS hA (fun _ => rfl) (by decide) (N' := 3) (by decide) (Nat.le_of_ble_eq_true rfl) (by rw [hrc]; omega) (by rw [hrs]; omega) dX5_init_17 (fun a_q_9 cA_11 H_10 hK9 hP hD hS => ?_)
  obtain rfl : g 0 = cA_11 := K_one hK9 0 5 rfl rfl
  obtain ⟨hP, hD⟩ := seg_join [[(a_this_, .inr (7, [.ref a_q_2, .null, .null, .int 0, .int 0, .int 0, .int 0, .int 0, .int 0, .int 0, .int 0, .int 0, .int 0]))], [(a_q_2, .inr (12, [.ref (u_6 0), .int 0]))], [((u_6 0), .inl (g 0, 160, .inl (fun _ => 0)))]] [[(a_q_9, .inl (g 0, 3, .inl (fun _ => 0)))]] [[(a_this_, .inr (7, [.ref a_q_2, .null, .null, .int 0, .int 0, .int 0, .int 0, .int 0, .int 0, .int 0, .int 0, .int 0, .int 0]))], [(a_q_2, .inr (12, [.ref (u_6 0), .int 0]))], [((u_6 0), .inl (g 0, 160, .inl (fun _ => 0)))], [(a_q_9, .inl (g 0, 3, .inl (fun _ => 0)))]] 4 [0, 1, 2, 3] rfl rfl (by decide) hP hD
  have hP : va_P (dC, dI) vwCl [(a_this_, .inr (7, [.ref a_q_2, .null, .null, .int 0, .int 0, .int 0, .int 0, .int 0, .int 0, .int 0, .int 0, .int 0, .int 0])), (a_q_2, .inr (12, [.ref (u_6 0), .int 0])), ((u_6 0), .inl (g 0, 160, .inl (fun _ => 0))), (a_q_9, .inl (g 0, 3, .inl (fun _ => 0)))] H_10 := hP
  have hD : va_D A [(a_this_, .inr (7, [.ref a_q_2, .null, .null, .int 0, .int 0, .int 0, .int 0, .int 0, .int 0, .int 0, .int 0, .int 0, .int 0])), (a_q_2, .inr (12, [.ref (u_6 0), .int 0])), ((u_6 0), .inl (g 0, 160, .inl (fun _ => 0))), (a_q_9, .inl (g 0, 3, .inl (fun _ => 0)))] := hD
  refine W.widen (k := 3) (n := 165) (by omega) (by omega) ?_
  refine va_putF (D := (dC, dI)) (ci := 7) (v := .ref a_q_9) (ty := .array .int) (C := RX5) (T := TX5) (N := 13) hx hb hts hiX5 tyX5 tyX5_ok nmX5 hown hK hP hD hS 0 rfl rfl 1 (by decide) hf18 (fun _ h9 => h9) rfl hin rfl (by decide +kernel) rfl rfl (Nat.le_of_ble_eq_true rfl) dX5_init_19 (fun H_12 L_13 hP hD hS => ?_)
  have hP : va_P (dC, dI) vwCl [(a_this_, .inr (7, [.ref a_q_2, .ref a_q_9, .null, .int 0, .int 0, .int 0, .int 0, .int 0, .int 0, .int 0, .int 0, .int 0, .int 0])), (a_q_2, .inr (12, [.ref (u_6 0), .int 0])), ((u_6 0), .inl (g 0, 160, .inl (fun _ => 0))), (a_q_9, .inl (g 0, 3, .inl (fun _ => 0)))] H_12 := hP
  have hD : va_D A [(a_this_, .inr (7, [.ref a_q_2, .ref a_q_9, .null, .int 0, .int 0, .int 0, .int 0, .int 0, .int 0, .int 0, .int 0, .int 0, .int 0])), (a_q_2, .inr (12, [.ref (u_6 0), .int 0])), ((u_6 0), .inl (g 0, 160, .inl (fun _ => 0))), (a_q_9, .inl (g 0, 3, .inl (fun _ => 0)))] := hD
  refine lv_aload_n hx hb dX5_init_22 rfl (lv_at hl 0 rfl) ?_
  refine va_new (ci := 10) (fs := [.int 0, .int 0, .int 0, .int 0, .int 0]) (C := RX8) (T := TX8) (N := 5) hx hb hts hiX8 tyX8 tyX8_ok hown hcl22 hinX8 hiniX8 hK hP hD hS hA rfl (fun j hj => by rcases (show j = 0 ∨ j = 1 ∨ j = 2 ∨ j = 3 ∨ j = 4 by omega) with rfl | rfl | rfl | rfl | rfl <;> rfl) (by rw [hrc]; omega) (by rw [hrs]; omega) dX5_init_23 (fun a_q_14 H_15 hP hD hS => ?_)
  obtain ⟨hP, hD⟩ := seg_join [[(a_this_, .inr (7, [.ref a_q_2, .ref a_q_9, .null, .int 0, .int 0, .int 0, .int 0, .int 0, .int 0, .int 0, .int 0, .int 0, .int 0]))], [(a_q_2, .inr (12, [.ref (u_6 0), .int 0]))], [((u_6 0), .inl (g 0, 160, .inl (fun _ => 0)))], [(a_q_9, .inl (g 0, 3, .inl (fun _ => 0)))]] [[(a_q_14, .inr (10, [.int 0, .int 0, .int 0, .int 0, .int 0]))]] [[(a_this_, .inr (7, [.ref a_q_2, .ref a_q_9, .null, .int 0, .int 0, .int 0, .int 0, .int 0, .int 0, .int 0, .int 0, .int 0, .int 0]))], [(a_q_2, .inr (12, [.ref (u_6 0), .int 0]))], [((u_6 0), .inl (g 0, 160, .inl (fun _ => 0)))], [(a_q_9, .inl (g 0, 3, .inl (fun _ => 0)))], [(a_q_14, .inr (10, [.int 0, .int 0, .int 0, .int 0, .int 0]))]] 5 [0, 1, 2, 3, 4] rfl rfl (by decide) hP hD
  have hP : va_P (dC, dI) vwCl [(a_this_, .inr (7, [.ref a_q_2, .ref a_q_9, .null, .int 0, .int 0, .int 0, .int 0, .int 0, .int 0, .int 0, .int 0, .int 0, .int 0])), (a_q_2, .inr (12, [.ref (u_6 0), .int 0])), ((u_6 0), .inl (g 0, 160, .inl (fun _ => 0))), (a_q_9, .inl (g 0, 3, .inl (fun _ => 0))), (a_q_14, .inr (10, [.int 0, .int 0, .int 0, .int 0, .int 0]))] H_15 := hP
  have hD : va_D A [(a_this_, .inr (7, [.ref a_q_2, .ref a_q_9, .null, .int 0, .int 0, .int 0, .int 0, .int 0, .int 0, .int 0, .int 0, .int 0, .int 0])), (a_q_2, .inr (12, [.ref (u_6 0), .int 0])), ((u_6 0), .inl (g 0, 160, .inl (fun _ => 0))), (a_q_9, .inl (g 0, 3, .inl (fun _ => 0))), (a_q_14, .inr (10, [.int 0, .int 0, .int 0, .int 0, .int 0]))] := hD
  refine W.widen (k := 4) (n := 170) (by omega) (by omega) ?_
  refine lv_dup hx hb dX5_init_26 rfl ?_
  obtain ⟨hPs, hDs⟩ := seg_call (segs := [[(a_this_, .inr (7, [.ref a_q_2, .ref a_q_9, .null, .int 0, .int 0, .int 0, .int 0, .int 0, .int 0, .int 0, .int 0, .int 0, .int 0]))], [(a_q_2, .inr (12, [.ref (u_6 0), .int 0]))], [((u_6 0), .inl (g 0, 160, .inl (fun _ => 0)))], [(a_q_9, .inl (g 0, 3, .inl (fun _ => 0)))], [(a_q_14, .inr (10, [.int 0, .int 0, .int 0, .int 0, .int 0]))]]) [[(a_this_, .inr (7, [.ref a_q_2, .ref a_q_9, .null, .int 0, .int 0, .int 0, .int 0, .int 0, .int 0, .int 0, .int 0, .int 0, .int 0]))], [(a_q_2, .inr (12, [.ref (u_6 0), .int 0]))], [((u_6 0), .inl (g 0, 160, .inl (fun _ => 0)))], [(a_q_9, .inl (g 0, 3, .inl (fun _ => 0)))]] [[(a_q_14, .inr (10, [.int 0, .int 0, .int 0, .int 0, .int 0]))]] 5 [0, 1, 2, 3, 4] rfl rfl (by decide) hP hD
  have hPc : va_P (dC, dI) vwCl [(a_q_14, .inr (10, [.int 0, .int 0, .int 0, .int 0, .int 0]))] H_15 := P_r hPs
  have hDc : va_D A [(a_q_14, .inr (10, [.int 0, .int 0, .int 0, .int 0, .int 0]))] := D_r hDs
  have hFc : ∀ q, va_A [(a_q_14, .inr (10, [.int 0, .int 0, .int 0, .int 0, .int 0]))] H_15.size q → A q := A_all hDc hA hS.1
  refine va_callv (va_runIN (As := []) (rest := [.ref a_q_14, .ref a_this_]) ⟨hx, hb, hml, hown, hts⟩ (c_X8_init l dC dI g (a_this_ := a_q_14) (hw := hw) (sz := H_15.size)) ⟨va_cnB 0 hts (gq0 aw_1_80) rfl rfl rfl (mnl_13 hG) hiniX8 (by decide +kernel) ⟨Nat.le_of_ble_eq_true rfl, Nat.le_of_ble_eq_true rfl⟩, rfl, himX8_init⟩ ⟨PG_blind, PG_call hK hG hS hPc hDc hFc⟩ rfl rfl hl.1 rfl (lv_room (Nat.le_of_ble_eq_true rfl)) dX5_init_27 ⟨by rw [hrc]; omega, by rw [hrs]; omega⟩) hS (fun q _ h => hFc q h) hFc (fun u_17 t_17 H_17 L_17 ht_17 hvm_17 hw_17 hB_17 hz_17 hk_17 hS => ?_)
  obtain ⟨u_18, u_17⟩ := u_17
  have hw := hw_17
  rw [ht_17] at hB_17
  obtain ⟨hP1, hD1⟩ := hB_17
  obtain ⟨hP, hD⟩ := join_r hPs hDs hk_17 hFc hP1 hD1
  obtain ⟨hP, hD⟩ := seg_join [[(a_this_, .inr (7, [.ref a_q_2, .ref a_q_9, .null, .int 0, .int 0, .int 0, .int 0, .int 0, .int 0, .int 0, .int 0, .int 0, .int 0]))], [(a_q_2, .inr (12, [.ref (u_6 0), .int 0]))], [((u_6 0), .inl (g 0, 160, .inl (fun _ => 0)))], [(a_q_9, .inl (g 0, 3, .inl (fun _ => 0)))]] [[(a_q_14, .inr (10, [.int 0, .int 1, .int 4, .int 0, .int 2]))]] [[(a_this_, .inr (7, [.ref a_q_2, .ref a_q_9, .null, .int 0, .int 0, .int 0, .int 0, .int 0, .int 0, .int 0, .int 0, .int 0, .int 0]))], [(a_q_2, .inr (12, [.ref (u_6 0), .int 0]))], [((u_6 0), .inl (g 0, 160, .inl (fun _ => 0)))], [(a_q_9, .inl (g 0, 3, .inl (fun _ => 0)))], [(a_q_14, .inr (10, [.int 0, .int 1, .int 4, .int 0, .int 2]))]] 5 [0, 1, 2, 3, 4] rfl rfl (by decide) hP hD
  have hP : va_P (dC, dI) vwCl [(a_this_, .inr (7, [.ref a_q_2, .ref a_q_9, .null, .int 0, .int 0, .int 0, .int 0, .int 0, .int 0, .int 0, .int 0, .int 0, .int 0])), (a_q_2, .inr (12, [.ref (u_6 0), .int 0])), ((u_6 0), .inl (g 0, 160, .inl (fun _ => 0))), (a_q_9, .inl (g 0, 3, .inl (fun _ => 0))), (a_q_14, .inr (10, [.int 0, .int 1, .int 4, .int 0, .int 2]))] H_17 := hP
  have hD : va_D A [(a_this_, .inr (7, [.ref a_q_2, .ref a_q_9, .null, .int 0, .int 0, .int 0, .int 0, .int 0, .int 0, .int 0, .int 0, .int 0, .int 0])), (a_q_2, .inr (12, [.ref (u_6 0), .int 0])), ((u_6 0), .inl (g 0, 160, .inl (fun _ => 0))), (a_q_9, .inl (g 0, 3, .inl (fun _ => 0))), (a_q_14, .inr (10, [.int 0, .int 1, .int 4, .int 0, .int 2]))] := hD
  refine W.widen (k := 4) (n := 170) (by omega) (by omega) ?_
  refine va_putF (D := (dC, dI)) (ci := 7) (v := .ref a_q_14) (ty := .object "RunmergeOffice$Settings") (C := RX5) (T := TX5) (N := 13) hx hb hts hiX5 tyX5 tyX5_ok nmX5 hown hK hP hD hS 0 rfl rfl 2 (by decide) hf25 (fun _ h9 => h9) rfl hin rfl (by decide +kernel) rfl rfl (Nat.le_of_ble_eq_true rfl) dX5_init_30 (fun H_19 L_20 hP hD hS => ?_)
  have hP : va_P (dC, dI) vwCl [(a_this_, .inr (7, [.ref a_q_2, .ref a_q_9, .ref a_q_14, .int 0, .int 0, .int 0, .int 0, .int 0, .int 0, .int 0, .int 0, .int 0, .int 0])), (a_q_2, .inr (12, [.ref (u_6 0), .int 0])), ((u_6 0), .inl (g 0, 160, .inl (fun _ => 0))), (a_q_9, .inl (g 0, 3, .inl (fun _ => 0))), (a_q_14, .inr (10, [.int 0, .int 1, .int 4, .int 0, .int 2]))] H_19 := hP
  have hD : va_D A [(a_this_, .inr (7, [.ref a_q_2, .ref a_q_9, .ref a_q_14, .int 0, .int 0, .int 0, .int 0, .int 0, .int 0, .int 0, .int 0, .int 0, .int 0])), (a_q_2, .inr (12, [.ref (u_6 0), .int 0])), ((u_6 0), .inl (g 0, 160, .inl (fun _ => 0))), (a_q_9, .inl (g 0, 3, .inl (fun _ => 0))), (a_q_14, .inr (10, [.int 0, .int 1, .int 4, .int 0, .int 2]))] := hD
  refine lv_aload_n hx hb dX5_init_33 rfl (lv_at hl 0 rfl) ?_
  refine lv_iconst (v := 0) hx hb dX5_init_34 (by decide) ?_
  refine va_put (D := (dC, dI)) (ci := 7) (v := .int 0) (ty := .int) (C := RX5) (T := TX5) (N := 13) hx hb hts hiX5 tyX5 tyX5_ok nmX5 hown hK hP hD hS 0 rfl rfl 3 (by decide) hf29 (fun _ h9 => h9) rfl (by decide +kernel) rfl rfl (Nat.le_of_ble_eq_true rfl) dX5_init_35 (fun H_21 L_22 hP hD hS => ?_)
  have hP : va_P (dC, dI) vwCl [(a_this_, .inr (7, [.ref a_q_2, .ref a_q_9, .ref a_q_14, .int 0, .int 0, .int 0, .int 0, .int 0, .int 0, .int 0, .int 0, .int 0, .int 0])), (a_q_2, .inr (12, [.ref (u_6 0), .int 0])), ((u_6 0), .inl (g 0, 160, .inl (fun _ => 0))), (a_q_9, .inl (g 0, 3, .inl (fun _ => 0))), (a_q_14, .inr (10, [.int 0, .int 1, .int 4, .int 0, .int 2]))] H_21 := hP
  have hD : va_D A [(a_this_, .inr (7, [.ref a_q_2, .ref a_q_9, .ref a_q_14, .int 0, .int 0, .int 0, .int 0, .int 0, .int 0, .int 0, .int 0, .int 0, .int 0])), (a_q_2, .inr (12, [.ref (u_6 0), .int 0])), ((u_6 0), .inl (g 0, 160, .inl (fun _ => 0))), (a_q_9, .inl (g 0, 3, .inl (fun _ => 0))), (a_q_14, .inr (10, [.int 0, .int 1, .int 4, .int 0, .int 2]))] := hD
  refine lv_aload_n hx hb dX5_init_38 rfl (lv_at hl 0 rfl) ?_
  refine lv_iconst (v := 0) hx hb dX5_init_39 (by decide) ?_
  refine va_put (D := (dC, dI)) (ci := 7) (v := .int 0) (ty := .int) (C := RX5) (T := TX5) (N := 13) hx hb hts hiX5 tyX5 tyX5_ok nmX5 hown hK hP hD hS 0 rfl rfl 4 (by decide) hf33 (fun _ h9 => h9) rfl (by decide +kernel) rfl rfl (Nat.le_of_ble_eq_true rfl) dX5_init_40 (fun H_23 L_24 hP hD hS => ?_)
  have hP : va_P (dC, dI) vwCl [(a_this_, .inr (7, [.ref a_q_2, .ref a_q_9, .ref a_q_14, .int 0, .int 0, .int 0, .int 0, .int 0, .int 0, .int 0, .int 0, .int 0, .int 0])), (a_q_2, .inr (12, [.ref (u_6 0), .int 0])), ((u_6 0), .inl (g 0, 160, .inl (fun _ => 0))), (a_q_9, .inl (g 0, 3, .inl (fun _ => 0))), (a_q_14, .inr (10, [.int 0, .int 1, .int 4, .int 0, .int 2]))] H_23 := hP
  have hD : va_D A [(a_this_, .inr (7, [.ref a_q_2, .ref a_q_9, .ref a_q_14, .int 0, .int 0, .int 0, .int 0, .int 0, .int 0, .int 0, .int 0, .int 0, .int 0])), (a_q_2, .inr (12, [.ref (u_6 0), .int 0])), ((u_6 0), .inl (g 0, 160, .inl (fun _ => 0))), (a_q_9, .inl (g 0, 3, .inl (fun _ => 0))), (a_q_14, .inr (10, [.int 0, .int 1, .int 4, .int 0, .int 2]))] := hD
  refine lv_aload_n hx hb dX5_init_43 rfl (lv_at hl 0 rfl) ?_
  refine lv_iconst (v := 0) hx hb dX5_init_44 (by decide) ?_
  refine va_put (D := (dC, dI)) (ci := 7) (v := .int 0) (ty := .int) (C := RX5) (T := TX5) (N := 13) hx hb hts hiX5 tyX5 tyX5_ok nmX5 hown hK hP hD hS 0 rfl rfl 5 (by decide) hf36 (fun _ h9 => h9) rfl (by decide +kernel) rfl rfl (Nat.le_of_ble_eq_true rfl) dX5_init_45 (fun H_25 L_26 hP hD hS => ?_)
  have hP : va_P (dC, dI) vwCl [(a_this_, .inr (7, [.ref a_q_2, .ref a_q_9, .ref a_q_14, .int 0, .int 0, .int 0, .int 0, .int 0, .int 0, .int 0, .int 0, .int 0, .int 0])), (a_q_2, .inr (12, [.ref (u_6 0), .int 0])), ((u_6 0), .inl (g 0, 160, .inl (fun _ => 0))), (a_q_9, .inl (g 0, 3, .inl (fun _ => 0))), (a_q_14, .inr (10, [.int 0, .int 1, .int 4, .int 0, .int 2]))] H_25 := hP
  have hD : va_D A [(a_this_, .inr (7, [.ref a_q_2, .ref a_q_9, .ref a_q_14, .int 0, .int 0, .int 0, .int 0, .int 0, .int 0, .int 0, .int 0, .int 0, .int 0])), (a_q_2, .inr (12, [.ref (u_6 0), .int 0])), ((u_6 0), .inl (g 0, 160, .inl (fun _ => 0))), (a_q_9, .inl (g 0, 3, .inl (fun _ => 0))), (a_q_14, .inr (10, [.int 0, .int 1, .int 4, .int 0, .int 2]))] := hD
  refine lv_aload_n hx hb dX5_init_48 rfl (lv_at hl 0 rfl) ?_
  refine lv_iconst (v := 0) hx hb dX5_init_49 (by decide) ?_
  refine va_put (D := (dC, dI)) (ci := 7) (v := .int 0) (ty := .int) (C := RX5) (T := TX5) (N := 13) hx hb hts hiX5 tyX5 tyX5_ok nmX5 hown hK hP hD hS 0 rfl rfl 6 (by decide) hf39 (fun _ h9 => h9) rfl (by decide +kernel) rfl rfl (Nat.le_of_ble_eq_true rfl) dX5_init_50 (fun H_27 L_28 hP hD hS => ?_)
  have hP : va_P (dC, dI) vwCl [(a_this_, .inr (7, [.ref a_q_2, .ref a_q_9, .ref a_q_14, .int 0, .int 0, .int 0, .int 0, .int 0, .int 0, .int 0, .int 0, .int 0, .int 0])), (a_q_2, .inr (12, [.ref (u_6 0), .int 0])), ((u_6 0), .inl (g 0, 160, .inl (fun _ => 0))), (a_q_9, .inl (g 0, 3, .inl (fun _ => 0))), (a_q_14, .inr (10, [.int 0, .int 1, .int 4, .int 0, .int 2]))] H_27 := hP
  have hD : va_D A [(a_this_, .inr (7, [.ref a_q_2, .ref a_q_9, .ref a_q_14, .int 0, .int 0, .int 0, .int 0, .int 0, .int 0, .int 0, .int 0, .int 0, .int 0])), (a_q_2, .inr (12, [.ref (u_6 0), .int 0])), ((u_6 0), .inl (g 0, 160, .inl (fun _ => 0))), (a_q_9, .inl (g 0, 3, .inl (fun _ => 0))), (a_q_14, .inr (10, [.int 0, .int 1, .int 4, .int 0, .int 2]))] := hD
  refine lv_aload_n hx hb dX5_init_53 rfl (lv_at hl 0 rfl) ?_
  refine lv_iconst (v := 0) hx hb dX5_init_54 (by decide) ?_
  refine va_put (D := (dC, dI)) (ci := 7) (v := .int 0) (ty := .int) (C := RX5) (T := TX5) (N := 13) hx hb hts hiX5 tyX5 tyX5_ok nmX5 hown hK hP hD hS 0 rfl rfl 7 (by decide) hf42 (fun _ h9 => h9) rfl (by decide +kernel) rfl rfl (Nat.le_of_ble_eq_true rfl) dX5_init_55 (fun H_29 L_30 hP hD hS => ?_)
  have hP : va_P (dC, dI) vwCl [(a_this_, .inr (7, [.ref a_q_2, .ref a_q_9, .ref a_q_14, .int 0, .int 0, .int 0, .int 0, .int 0, .int 0, .int 0, .int 0, .int 0, .int 0])), (a_q_2, .inr (12, [.ref (u_6 0), .int 0])), ((u_6 0), .inl (g 0, 160, .inl (fun _ => 0))), (a_q_9, .inl (g 0, 3, .inl (fun _ => 0))), (a_q_14, .inr (10, [.int 0, .int 1, .int 4, .int 0, .int 2]))] H_29 := hP
  have hD : va_D A [(a_this_, .inr (7, [.ref a_q_2, .ref a_q_9, .ref a_q_14, .int 0, .int 0, .int 0, .int 0, .int 0, .int 0, .int 0, .int 0, .int 0, .int 0])), (a_q_2, .inr (12, [.ref (u_6 0), .int 0])), ((u_6 0), .inl (g 0, 160, .inl (fun _ => 0))), (a_q_9, .inl (g 0, 3, .inl (fun _ => 0))), (a_q_14, .inr (10, [.int 0, .int 1, .int 4, .int 0, .int 2]))] := hD
  refine lv_aload_n hx hb dX5_init_58 rfl (lv_at hl 0 rfl) ?_
  refine lv_iconst (v := 0) hx hb dX5_init_59 (by decide) ?_
  refine va_put (D := (dC, dI)) (ci := 7) (v := .int 0) (ty := .int) (C := RX5) (T := TX5) (N := 13) hx hb hts hiX5 tyX5 tyX5_ok nmX5 hown hK hP hD hS 0 rfl rfl 8 (by decide) hf45 (fun _ h9 => h9) rfl (by decide +kernel) rfl rfl (Nat.le_of_ble_eq_true rfl) dX5_init_60 (fun H_31 L_32 hP hD hS => ?_)
  have hP : va_P (dC, dI) vwCl [(a_this_, .inr (7, [.ref a_q_2, .ref a_q_9, .ref a_q_14, .int 0, .int 0, .int 0, .int 0, .int 0, .int 0, .int 0, .int 0, .int 0, .int 0])), (a_q_2, .inr (12, [.ref (u_6 0), .int 0])), ((u_6 0), .inl (g 0, 160, .inl (fun _ => 0))), (a_q_9, .inl (g 0, 3, .inl (fun _ => 0))), (a_q_14, .inr (10, [.int 0, .int 1, .int 4, .int 0, .int 2]))] H_31 := hP
  have hD : va_D A [(a_this_, .inr (7, [.ref a_q_2, .ref a_q_9, .ref a_q_14, .int 0, .int 0, .int 0, .int 0, .int 0, .int 0, .int 0, .int 0, .int 0, .int 0])), (a_q_2, .inr (12, [.ref (u_6 0), .int 0])), ((u_6 0), .inl (g 0, 160, .inl (fun _ => 0))), (a_q_9, .inl (g 0, 3, .inl (fun _ => 0))), (a_q_14, .inr (10, [.int 0, .int 1, .int 4, .int 0, .int 2]))] := hD
  refine lv_aload_n hx hb dX5_init_63 rfl (lv_at hl 0 rfl) ?_
  refine lv_iconst (v := 0) hx hb dX5_init_64 (by decide) ?_
  refine va_put (D := (dC, dI)) (ci := 7) (v := .int 0) (ty := .int) (C := RX5) (T := TX5) (N := 13) hx hb hts hiX5 tyX5 tyX5_ok nmX5 hown hK hP hD hS 0 rfl rfl 9 (by decide) hf48 (fun _ h9 => h9) rfl (by decide +kernel) rfl rfl (Nat.le_of_ble_eq_true rfl) dX5_init_65 (fun H_33 L_34 hP hD hS => ?_)
  have hP : va_P (dC, dI) vwCl [(a_this_, .inr (7, [.ref a_q_2, .ref a_q_9, .ref a_q_14, .int 0, .int 0, .int 0, .int 0, .int 0, .int 0, .int 0, .int 0, .int 0, .int 0])), (a_q_2, .inr (12, [.ref (u_6 0), .int 0])), ((u_6 0), .inl (g 0, 160, .inl (fun _ => 0))), (a_q_9, .inl (g 0, 3, .inl (fun _ => 0))), (a_q_14, .inr (10, [.int 0, .int 1, .int 4, .int 0, .int 2]))] H_33 := hP
  have hD : va_D A [(a_this_, .inr (7, [.ref a_q_2, .ref a_q_9, .ref a_q_14, .int 0, .int 0, .int 0, .int 0, .int 0, .int 0, .int 0, .int 0, .int 0, .int 0])), (a_q_2, .inr (12, [.ref (u_6 0), .int 0])), ((u_6 0), .inl (g 0, 160, .inl (fun _ => 0))), (a_q_9, .inl (g 0, 3, .inl (fun _ => 0))), (a_q_14, .inr (10, [.int 0, .int 1, .int 4, .int 0, .int 2]))] := hD
  refine lv_aload_n hx hb dX5_init_68 rfl (lv_at hl 0 rfl) ?_
  refine lv_iconst (v := 0) hx hb dX5_init_69 (by decide) ?_
  refine va_put (D := (dC, dI)) (ci := 7) (v := .int 0) (ty := .boolean) (C := RX5) (T := TX5) (N := 13) hx hb hts hiX5 tyX5 tyX5_ok nmX5 hown hK hP hD hS 0 rfl rfl 10 (by decide) hf51 (fun _ h9 => h9) rfl (by decide +kernel) rfl rfl (Nat.le_of_ble_eq_true rfl) dX5_init_70 (fun H_35 L_36 hP hD hS => ?_)
  have hP : va_P (dC, dI) vwCl [(a_this_, .inr (7, [.ref a_q_2, .ref a_q_9, .ref a_q_14, .int 0, .int 0, .int 0, .int 0, .int 0, .int 0, .int 0, .int 0, .int 0, .int 0])), (a_q_2, .inr (12, [.ref (u_6 0), .int 0])), ((u_6 0), .inl (g 0, 160, .inl (fun _ => 0))), (a_q_9, .inl (g 0, 3, .inl (fun _ => 0))), (a_q_14, .inr (10, [.int 0, .int 1, .int 4, .int 0, .int 2]))] H_35 := hP
  have hD : va_D A [(a_this_, .inr (7, [.ref a_q_2, .ref a_q_9, .ref a_q_14, .int 0, .int 0, .int 0, .int 0, .int 0, .int 0, .int 0, .int 0, .int 0, .int 0])), (a_q_2, .inr (12, [.ref (u_6 0), .int 0])), ((u_6 0), .inl (g 0, 160, .inl (fun _ => 0))), (a_q_9, .inl (g 0, 3, .inl (fun _ => 0))), (a_q_14, .inr (10, [.int 0, .int 1, .int 4, .int 0, .int 2]))] := hD
  refine lv_aload_n hx hb dX5_init_73 rfl (lv_at hl 0 rfl) ?_
  refine lv_iconst (v := 0) hx hb dX5_init_74 (by decide) ?_
  refine va_put (D := (dC, dI)) (ci := 7) (v := .int 0) (ty := .int) (C := RX5) (T := TX5) (N := 13) hx hb hts hiX5 tyX5 tyX5_ok nmX5 hown hK hP hD hS 0 rfl rfl 11 (by decide) hf55 (fun _ h9 => h9) rfl (by decide +kernel) rfl rfl (Nat.le_of_ble_eq_true rfl) dX5_init_75 (fun H_37 L_38 hP hD hS => ?_)
  have hP : va_P (dC, dI) vwCl [(a_this_, .inr (7, [.ref a_q_2, .ref a_q_9, .ref a_q_14, .int 0, .int 0, .int 0, .int 0, .int 0, .int 0, .int 0, .int 0, .int 0, .int 0])), (a_q_2, .inr (12, [.ref (u_6 0), .int 0])), ((u_6 0), .inl (g 0, 160, .inl (fun _ => 0))), (a_q_9, .inl (g 0, 3, .inl (fun _ => 0))), (a_q_14, .inr (10, [.int 0, .int 1, .int 4, .int 0, .int 2]))] H_37 := hP
  have hD : va_D A [(a_this_, .inr (7, [.ref a_q_2, .ref a_q_9, .ref a_q_14, .int 0, .int 0, .int 0, .int 0, .int 0, .int 0, .int 0, .int 0, .int 0, .int 0])), (a_q_2, .inr (12, [.ref (u_6 0), .int 0])), ((u_6 0), .inl (g 0, 160, .inl (fun _ => 0))), (a_q_9, .inl (g 0, 3, .inl (fun _ => 0))), (a_q_14, .inr (10, [.int 0, .int 1, .int 4, .int 0, .int 2]))] := hD
  refine lv_aload_n hx hb dX5_init_78 rfl (lv_at hl 0 rfl) ?_
  refine lv_iconst (v := (-1)) hx hb dX5_init_79 (by decide) ?_
  refine va_put (D := (dC, dI)) (ci := 7) (v := .int (-1)) (ty := .int) (C := RX5) (T := TX5) (N := 13) hx hb hts hiX5 tyX5 tyX5_ok nmX5 hown hK hP hD hS 0 rfl rfl 12 (by decide) hf58 (fun _ h9 => h9) rfl (by decide +kernel) rfl rfl (Nat.le_of_ble_eq_true rfl) dX5_init_80 (fun H_39 L_40 hP hD hS => ?_)
  have hP : va_P (dC, dI) vwCl [(a_this_, .inr (7, [.ref a_q_2, .ref a_q_9, .ref a_q_14, .int 0, .int 0, .int 0, .int 0, .int 0, .int 0, .int 0, .int 0, .int 0, .int (-1)])), (a_q_2, .inr (12, [.ref (u_6 0), .int 0])), ((u_6 0), .inl (g 0, 160, .inl (fun _ => 0))), (a_q_9, .inl (g 0, 3, .inl (fun _ => 0))), (a_q_14, .inr (10, [.int 0, .int 1, .int 4, .int 0, .int 2]))] H_39 := hP
  have hD : va_D A [(a_this_, .inr (7, [.ref a_q_2, .ref a_q_9, .ref a_q_14, .int 0, .int 0, .int 0, .int 0, .int 0, .int 0, .int 0, .int 0, .int 0, .int (-1)])), (a_q_2, .inr (12, [.ref (u_6 0), .int 0])), ((u_6 0), .inl (g 0, 160, .inl (fun _ => 0))), (a_q_9, .inl (g 0, 3, .inl (fun _ => 0))), (a_q_14, .inr (10, [.int 0, .int 1, .int 4, .int 0, .int 2]))] := hD
  refine W.widen (k := 4) (n := 170) (by omega) (by omega) ?_
  exact W.vret hx hb hr (fun t ht hW => ⟨⟨((fun j => ([a_q_2, (u_6 0), a_q_9, a_q_14] : List Nat).getD j 0), ()), rfl, hw, ⟨P_at ht hP, hD⟩⟩, hS.F ht⟩) hS.2.2 dX5_init_83
