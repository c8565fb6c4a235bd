theorem dL_next_0 : decode cL_next 0 = .ok (.aload_n 0, 1) := by decide +kernel
theorem dL_next_1 : decode cL_next 1 = .ok (.iconst 0, 1) := by decide +kernel
theorem dL_next_2 : decode cL_next 2 = .ok (.aload_n 0, 1) := by decide +kernel
theorem dL_next_3 : decode cL_next 3 = .ok (.iconst 0, 1) := by decide +kernel
theorem dL_next_4 : decode cL_next 4 = .ok (.iaload, 1) := by decide +kernel
theorem dL_next_5 : decode cL_next 5 = .ok (.ldc 11, 2) := by decide +kernel
theorem dL_next_7 : decode cL_next 7 = .ok (.imul, 1) := by decide +kernel
theorem dL_next_8 : decode cL_next 8 = .ok (.sipush 12345, 3) := by decide +kernel
theorem dL_next_11 : decode cL_next 11 = .ok (.iadd, 1) := by decide +kernel
theorem dL_next_12 : decode cL_next 12 = .ok (.iastore, 1) := by decide +kernel
theorem dL_next_13 : decode cL_next 13 = .ok (.aload_n 0, 1) := by decide +kernel
theorem dL_next_14 : decode cL_next 14 = .ok (.iconst 1, 1) := by decide +kernel
theorem dL_next_15 : decode cL_next 15 = .ok (.aload_n 0, 1) := by decide +kernel
theorem dL_next_16 : decode cL_next 16 = .ok (.iconst 1, 1) := by decide +kernel
theorem dL_next_17 : decode cL_next 17 = .ok (.iaload, 1) := by decide +kernel
theorem dL_next_18 : decode cL_next 18 = .ok (.aload_n 0, 1) := by decide +kernel
theorem dL_next_19 : decode cL_next 19 = .ok (.iconst 0, 1) := by decide +kernel
theorem dL_next_20 : decode cL_next 20 = .ok (.iaload, 1) := by decide +kernel
theorem dL_next_21 : decode cL_next 21 = .ok (.bipush 9, 2) := by decide +kernel
theorem dL_next_23 : decode cL_next 23 = .ok (.iushr, 1) := by decide +kernel
theorem dL_next_24 : decode cL_next 24 = .ok (.ixor, 1) := by decide +kernel
theorem dL_next_25 : decode cL_next 25 = .ok (.ldc 12, 2) := by decide +kernel
theorem dL_next_27 : decode cL_next 27 = .ok (.imul, 1) := by decide +kernel
theorem dL_next_28 : decode cL_next 28 = .ok (.iconst 1, 1) := by decide +kernel
theorem dL_next_29 : decode cL_next 29 = .ok (.iadd, 1) := by decide +kernel
theorem dL_next_30 : decode cL_next 30 = .ok (.iastore, 1) := by decide +kernel
theorem dL_next_31 : decode cL_next 31 = .ok (.aload_n 0, 1) := by decide +kernel
theorem dL_next_32 : decode cL_next 32 = .ok (.iconst 1, 1) := by decide +kernel
theorem dL_next_33 : decode cL_next 33 = .ok (.iaload, 1) := by decide +kernel
theorem dL_next_34 : decode cL_next 34 = .ok (.aload_n 0, 1) := by decide +kernel
theorem dL_next_35 : decode cL_next 35 = .ok (.iconst 1, 1) := by decide +kernel
theorem dL_next_36 : decode cL_next 36 = .ok (.iaload, 1) := by decide +kernel
theorem dL_next_37 : decode cL_next 37 = .ok (.bipush 16, 2) := by decide +kernel
theorem dL_next_39 : decode cL_next 39 = .ok (.iushr, 1) := by decide +kernel
theorem dL_next_40 : decode cL_next 40 = .ok (.ixor, 1) := by decide +kernel
theorem dL_next_41 : decode cL_next 41 = .ok (.ireturn, 1) := by decide +kernel

set_option maxHeartbeats 8000000 in
set_option maxRecDepth 100000 in
theorem c_L_next (l : Launch) (hlf : l.stackTraces = false) (dC : Nat → ClassId) (dI : Nat → Nat → Nat) (g : Nat → ClassId) (a_r_ n_r_ : Nat) (r_ : Nat → Int32) (Q : Int32 → (Nat → Int32) → Prop) (hw : wp_L_next n_r_ r_ Q) (sz : Nat) : Met l yL_next wqL_next ({ frames := 0, cells := 0, slots := 0, locals := 0 }) (va_Pc [.ref a_r_] (PG (dC, dI) g [(a_r_, .inl (g 0, n_r_, .inl r_))] sz)) (va_Qi (fun (r : Int32) (u : (Nat → Int32) × Unit) => Q r u.1) (fun (u : (Nat → Int32) × Unit) t9 => va_P (dC, dI) vwCl [(a_r_, .inl (g 0, n_r_, .inl u.1))] t9.heap ∧ va_D (va_A [(a_r_, .inl (g 0, n_r_, .inl r_))] sz) [(a_r_, .inl (g 0, n_r_, .inl u.1))]) (va_A [(a_r_, .inl (g 0, n_r_, .inl r_))] sz)) 0 0 (va_A [(a_r_, .inl (g 0, n_r_, .inl r_))] sz) := by
  refine Met.ofW (cc := cL_next) (maxL := 1) (ret := (some .int)) (by decide) rfl ?_
  intro p e s m args below meth c s₁ B hml hv
  obtain ⟨rfl, hsz, hP, hK, hD0, hG⟩ := hv
  have hx := B.exec
  have hb := B.bytes
  have hr := B.returns
  have hts := atoms_spec (ws := wqL_next) B.pre
  have hown : s.vm.findClass RL = some m.cls := findClass_of_methodNamed B.named
  have hlocks := B.notSynchronized
  subst hsz
  have hD := hD0.self (sz := s.heap.size)
  generalize hAe : va_A [(a_r_, .inl (g 0, n_r_, .inl r_))] s.heap.size = A at hD hG ⊢
  have hA : ∀ q : Nat, s.heap.size ≤ q → A q := fun q h => by rw [← hAe]; exact Or.inr h
  have hS : va_S A s.heap s.heap [] := va_S.rf
  have hrc : (headSpec wqL_next ({ frames := 0, cells := 0, slots := 0, locals := 0 })).room.cells = 0 := rfl
  have hrs : (headSpec wqL_next ({ frames := 0, cells := 0, slots := 0, locals := 0 })).room.slots = 0 := rfl
  have hl := lv_entry ([.ref a_r_]) (n := 1) (Nat.le_of_ble_eq_true rfl)
  rw [lg_entry_eq]
  generalize (lg_sl ([.ref a_r_]) ++ List.replicate (1 - (lg_sl ([.ref a_r_])).length) Slot.unset).toArray = ls at hl ⊢
  have hl : lv_has ls 1 [(0, .ref a_r_)] := hl
  unfold wp_L_next at hw
  have hk11 := hts (Jvm.Cond.constant RL 11 1103515245) (aw_l aw_2_214)
  have hk12 := hts (Jvm.Cond.constant RL 12 69069) (aw_l aw_2_221)
  refine lv_aload_n hx hb dL_next_0 rfl (lv_at hl 0 rfl) ?_
  refine lv_iconst (v := 0) hx hb dL_next_1 (by decide) ?_
  refine lv_aload_n hx hb dL_next_2 rfl (lv_at hl 0 rfl) ?_
  refine lv_iconst (v := 0) hx hb dL_next_3 (by decide) ?_
  refine va_iald hx hb hK hP 0 0 rfl rfl hw.1 dL_next_4 ?_
  have hw := hw.2
  refine lv_topi (fun x_1 ex_1 => ?_)
  have hw := hw x_1 ex_1
  refine lv_ldc hx hb hown hk11 dL_next_5 ?_
  refine lv_imul hx hb dL_next_7 ?_
  refine lv_topi (fun x_2 ex_2 => ?_)
  have hw := hw x_2 ex_2
  refine lv_sipush (v := 12345) hx hb dL_next_8 (by decide) ?_
  refine lv_iadd hx hb dL_next_11 ?_
  refine lv_topi (fun x_3 ex_3 => ?_)
  have hw := hw x_3 ex_3
  refine va_iast hx hb hK hP hD hS 0 0 rfl rfl hw.1 dL_next_12 (fun H_4 L_5 hP hD hS => ?_)
  have hw := hw.2
  have hP : va_P (dC, dI) vwCl [(a_r_, .inl (g 0, n_r_, .inl (upd r_ (0 : Int32).toNatClampNeg x_3)))] H_4 := hP
  have hD : va_D A [(a_r_, .inl (g 0, n_r_, .inl (upd r_ (0 : Int32).toNatClampNeg x_3)))] := hD
  refine lv_aload_n hx hb dL_next_13 rfl (lv_at hl 0 rfl) ?_
  refine lv_iconst (v := 1) hx hb dL_next_14 (by decide) ?_
  refine lv_aload_n hx hb dL_next_15 rfl (lv_at hl 0 rfl) ?_
  refine lv_iconst (v := 1) hx hb dL_next_16 (by decide) ?_
  refine va_iald hx hb hK hP 0 0 rfl rfl hw.1 dL_next_17 ?_
  have hw := hw.2
  refine lv_topi (fun x_6 ex_6 => ?_)
  have hw := hw x_6 ex_6
  refine lv_aload_n hx hb dL_next_18 rfl (lv_at hl 0 rfl) ?_
  refine lv_iconst (v := 0) hx hb dL_next_19 (by decide) ?_
  refine va_iald hx hb hK hP 0 0 rfl rfl hw.1 dL_next_20 ?_
  have hw := hw.2
  refine lv_topi (fun x_7 ex_7 => ?_)
  have hw := hw x_7 ex_7
  refine lv_bipush (v := 9) hx hb dL_next_21 (by decide) ?_
  refine lv_iushr hx hb dL_next_23 rfl ?_
  refine lv_topi (fun x_8 ex_8 => ?_)
  have hw := hw x_8 ex_8
  refine lv_ixor hx hb dL_next_24 ?_
  refine lv_topi (fun x_9 ex_9 => ?_)
  have hw := hw x_9 ex_9
  refine lv_ldc hx hb hown hk12 dL_next_25 ?_
  refine lv_imul hx hb dL_next_27 ?_
  refine lv_topi (fun x_10 ex_10 => ?_)
  have hw := hw x_10 ex_10
  refine lv_iconst (v := 1) hx hb dL_next_28 (by decide) ?_
  refine lv_iadd hx hb dL_next_29 ?_
  refine lv_topi (fun x_11 ex_11 => ?_)
  have hw := hw x_11 ex_11
  refine va_iast hx hb hK hP hD hS 0 0 rfl rfl hw.1 dL_next_30 (fun H_12 L_13 hP hD hS => ?_)
  have hw := hw.2
  have hP : va_P (dC, dI) vwCl [(a_r_, .inl (g 0, n_r_, .inl (upd (upd r_ (0 : Int32).toNatClampNeg x_3) (1 : Int32).toNatClampNeg x_11)))] H_12 := hP
  have hD : va_D A [(a_r_, .inl (g 0, n_r_, .inl (upd (upd r_ (0 : Int32).toNatClampNeg x_3) (1 : Int32).toNatClampNeg x_11)))] := hD
  refine lv_aload_n hx hb dL_next_31 rfl (lv_at hl 0 rfl) ?_
  refine lv_iconst (v := 1) hx hb dL_next_32 (by decide) ?_
  refine va_iald hx hb hK hP 0 0 rfl rfl hw.1 dL_next_33 ?_
  have hw := hw.2
  refine lv_topi (fun x_14 ex_14 => ?_)
  have hw := hw x_14 ex_14
  refine lv_aload_n hx hb dL_next_34 rfl (lv_at hl 0 rfl) ?_
  refine lv_iconst (v := 1) hx hb dL_next_35 (by decide) ?_
  refine va_iald hx hb hK hP 0 0 rfl rfl hw.1 dL_next_36 ?_
  have hw := hw.2
  refine lv_topi (fun x_15 ex_15 => ?_)
  have hw := hw x_15 ex_15
  refine lv_bipush (v := 16) hx hb dL_next_37 (by decide) ?_
  refine lv_iushr hx hb dL_next_39 rfl ?_
  refine lv_topi (fun x_16 ex_16 => ?_)
  have hw := hw x_16 ex_16
  refine lv_ixor hx hb dL_next_40 ?_
  refine lv_topi (fun x_17 ex_17 => ?_)
  have hw := hw x_17 ex_17
  refine W.widen (k := 0) (n := 0) (by omega) (by omega) ?_
  exact W.iret (v := x_17) hx hb hr (fun t ht hW => ⟨⟨x_17, ((upd (upd r_ (0 : Int32).toNatClampNeg x_3) (1 : Int32).toNatClampNeg x_11), ()), rfl, hw, ⟨P_at ht hP, hD⟩⟩, hS.F ht⟩) hS.2.2 dL_next_41
theorem dL_draw_0 : decode cL_draw 0 = .ok (.aload_n 0, 1) := by decide +kernel
theorem dL_draw_1 : decode cL_draw 1 = .ok (.invokestatic 13, 3) := by decide +kernel
theorem dL_draw_4 : decode cL_draw 4 = .ok (.iconst 4, 1) := by decide +kernel
theorem dL_draw_5 : decode cL_draw 5 = .ok (.iushr, 1) := by decide +kernel
theorem dL_draw_6 : decode cL_draw 6 = .ok (.iload_n 1, 1) := by decide +kernel
theorem dL_draw_7 : decode cL_draw 7 = .ok (.irem, 1) := by decide +kernel
theorem dL_draw_8 : decode cL_draw 8 = .ok (.ireturn, 1) := by decide +kernel

set_option maxHeartbeats 8000000 in
set_option maxRecDepth 100000 in
theorem c_L_draw (l : Launch) (hlf : l.stackTraces = false) (dC : Nat → ClassId) (dI : Nat → Nat → Nat) (g : Nat → ClassId) (a_r_ n_r_ : Nat) (r_ : Nat → Int32) (many : Int32) (Q : Int32 → (Nat → Int32) → Prop) (hw : wp_L_draw n_r_ r_ many Q) (sz : Nat) : Met l yL_draw wqL_draw ({ frames := 1, cells := 0, slots := 0, locals := 20 }) (va_Pc [.ref a_r_, .int many] (PG (dC, dI) g [(a_r_, .inl (g 0, n_r_, .inl r_))] sz)) (va_Qi (fun (r : Int32) (u : (Nat → Int32) × Unit) => Q r u.1) (fun (u : (Nat → Int32) × Unit) t9 => va_P (dC, dI) vwCl [(a_r_, .inl (g 0, n_r_, .inl u.1))] t9.heap ∧ va_D (va_A [(a_r_, .inl (g 0, n_r_, .inl r_))] sz) [(a_r_, .inl (g 0, n_r_, .inl u.1))]) (va_A [(a_r_, .inl (g 0, n_r_, .inl r_))] sz)) 0 0 (va_A [(a_r_, .inl (g 0, n_r_, .inl r_))] sz) := by
  refine Met.ofW (cc := cL_draw) (maxL := 2) (ret := (some .int)) (by decide) rfl ?_
  intro p e s m args below meth c s₁ B hml hv
  obtain ⟨rfl, hsz, hP, hK, hD0, hG⟩ := hv
  have hx := B.exec
  have hb := B.bytes
  have hr := B.returns
  have hts := atoms_spec (ws := wqL_draw) B.pre
  have hown : s.vm.findClass RL = some m.cls := findClass_of_methodNamed B.named
  have hlocks := B.notSynchronized
  subst hsz
  have hD := hD0.self (sz := s.heap.size)
  generalize hAe : va_A [(a_r_, .inl (g 0, n_r_, .inl r_))] s.heap.size = A at hD hG ⊢
  have hA : ∀ q : Nat, s.heap.size ≤ q → A q := fun q h => by rw [← hAe]; exact Or.inr h
  have hS : va_S A s.heap s.heap [] := va_S.rf
  have hrc : (headSpec wqL_draw ({ frames := 1, cells := 0, slots := 0, locals := 20 })).room.cells = 0 := rfl
  have hrs : (headSpec wqL_draw ({ frames := 1, cells := 0, slots := 0, locals := 20 })).room.slots = 0 := rfl
  have hl := lv_entry ([.ref a_r_, .int many]) (n := 2) (Nat.le_of_ble_eq_true rfl)
  rw [lg_entry_eq]
  generalize (lg_sl ([.ref a_r_, .int many]) ++ List.replicate (2 - (lg_sl ([.ref a_r_, .int many])).length) Slot.unset).toArray = ls at hl ⊢
  have hl : lv_has ls 2 [(0, .ref a_r_), (1, .int many)] := hl
  unfold wp_L_draw at hw
  refine lv_aload_n hx hb dL_draw_0 rfl (lv_at hl 0 rfl) ?_
  obtain ⟨hPs, hDs⟩ := seg_call (segs := [[(a_r_, .inl (g 0, n_r_, .inl r_))]]) [] [[(a_r_, .inl (g 0, n_r_, .inl r_))]] 1 [0] rfl rfl (by decide) hP hD
  have hPc : va_P (dC, dI) vwCl [(a_r_, .inl (g 0, n_r_, .inl r_))] s.heap := P_r hPs
  have hDc : va_D A [(a_r_, .inl (g 0, n_r_, .inl r_))] := D_r hDs
  have hFc : ∀ q, va_A [(a_r_, .inl (g 0, n_r_, .inl r_))] s.heap.size q → A q := A_all hDc hA hS.1
  refine va_calli (va_runS (As := [.ref a_r_]) (rest := []) ⟨hx, hb, hml, hown, hts⟩ (c_L_next l hlf dC dI g (a_r_ := a_r_) (n_r_ := n_r_) (r_ := r_) (hw := hw) (sz := s.heap.size)) (va_cwS 1 hts (gqS aw_2_218 aw_2_219 aw_1_0 aw_2_220) rfl rfl rfl (by decide +kernel) ⟨Nat.le_of_ble_eq_true rfl, Nat.le_of_ble_eq_true rfl⟩) ⟨PG_blind, PG_call hK hG hS hPc hDc hFc⟩ rfl rfl hl.1 rfl (lv_room (Nat.le_of_ble_eq_true rfl)) dL_draw_1 ⟨by rw [hrc]; omega, by rw [hrs]; omega⟩) hS (fun q _ h => hFc q h) hFc (fun r_1 u_1 t_1 H_1 L_1 ht_1 hvm_1 hw_1 hB_1 hz_1 hk_1 hS => ?_)
  obtain ⟨r__2, u_1⟩ := u_1
  have hw := hw_1
  rw [ht_1] at hB_1
  obtain ⟨hP1, hD1⟩ := hB_1
  obtain ⟨hP, hD⟩ := join_r hPs hDs hk_1 hFc hP1 hD1
  obtain ⟨hP, hD⟩ := seg_join [] [[(a_r_, .inl (g 0, n_r_, .inl r__2))]] [[(a_r_, .inl (g 0, n_r_, .inl r__2))]] 1 [0] rfl rfl (by decide) hP hD
  have hP : va_P (dC, dI) vwCl [(a_r_, .inl (g 0, n_r_, .inl r__2))] H_1 := hP
  have hD : va_D A [(a_r_, .inl (g 0, n_r_, .inl r__2))] := hD
  refine W.widen (k := 0) (n := 0) (by omega) (by omega) ?_
  refine lv_iconst (v := 4) hx hb dL_draw_4 (by decide) ?_
  refine lv_iushr hx hb dL_draw_5 rfl ?_
  refine lv_topi (fun x_3 ex_3 => ?_)
  have hw := hw x_3 ex_3
  refine lv_iload_n hx hb dL_draw_6 rfl (lv_at hl 1 rfl) ?_
  refine lv_irem hx hb dL_draw_7 hw.1 ?_
  have hw := hw.2
  refine lv_topi (fun x_4 ex_4 => ?_)
  have hw := hw x_4 ex_4
  refine W.widen (k := 0) (n := 0) (by omega) (by omega) ?_
  exact W.iret (v := x_4) hx hb hr (fun t ht hW => ⟨⟨x_4, (r__2, ()), rfl, hw, ⟨P_at ht hP, hD⟩⟩, hS.F ht⟩) hS.2.2 dL_draw_8
theorem dL_seed_0 : decode cL_seed 0 = .ok (.iconst 2, 1) := by decide +kernel
theorem dL_seed_1 : decode cL_seed 1 = .ok (.newarray .int, 2) := by decide +kernel
theorem dL_seed_3 : decode cL_seed 3 = .ok (.dup, 1) := by decide +kernel
theorem dL_seed_4 : decode cL_seed 4 = .ok (.iconst 0, 1) := by decide +kernel
theorem dL_seed_5 : decode cL_seed 5 = .ok (.aload_n 0, 1) := by decide +kernel
theorem dL_seed_6 : decode cL_seed 6 = .ok (.arraylength, 1) := by decide +kernel
theorem dL_seed_7 : decode cL_seed 7 = .ok (.sipush 12345, 3) := by decide +kernel
theorem dL_seed_10 : decode cL_seed 10 = .ok (.iadd, 1) := by decide +kernel
theorem dL_seed_11 : decode cL_seed 11 = .ok (.iastore, 1) := by decide +kernel
theorem dL_seed_12 : decode cL_seed 12 = .ok (.dup, 1) := by decide +kernel
theorem dL_seed_13 : decode cL_seed 13 = .ok (.iconst 1, 1) := by decide +kernel
theorem dL_seed_14 : decode cL_seed 14 = .ok (.ldc 9, 2) := by decide +kernel
theorem dL_seed_16 : decode cL_seed 16 = .ok (.iastore, 1) := by decide +kernel
theorem dL_seed_17 : decode cL_seed 17 = .ok (.astore_n 1, 1) := by decide +kernel
theorem dL_seed_18 : decode cL_seed 18 = .ok (.iconst 0, 1) := by decide +kernel
theorem dL_seed_19 : decode cL_seed 19 = .ok (.istore_n 2, 1) := by decide +kernel
theorem dL_seed_67 : decode cL_seed 67 = .ok (.aload_n 1, 1) := by decide +kernel
theorem dL_seed_68 : decode cL_seed 68 = .ok (.areturn, 1) := by decide +kernel
theorem dL_seed_20 : decode cL_seed 20 = .ok (.iload_n 2, 1) := by decide +kernel
theorem dL_seed_21 : decode cL_seed 21 = .ok (.aload_n 0, 1) := by decide +kernel
theorem dL_seed_22 : decode cL_seed 22 = .ok (.arraylength, 1) := by decide +kernel
theorem dL_seed_23 : decode cL_seed 23 = .ok (.if_icmp .ge 44, 3) := by decide +kernel
theorem dL_seed_26 : decode cL_seed 26 = .ok (.aload_n 1, 1) := by decide +kernel
theorem dL_seed_27 : decode cL_seed 27 = .ok (.iconst 0, 1) := by decide +kernel
theorem dL_seed_28 : decode cL_seed 28 = .ok (.aload_n 1, 1) := by decide +kernel
theorem dL_seed_29 : decode cL_seed 29 = .ok (.iconst 0, 1) := by decide +kernel
theorem dL_seed_30 : decode cL_seed 30 = .ok (.iaload, 1) := by decide +kernel
theorem dL_seed_31 : decode cL_seed 31 = .ok (.aload_n 0, 1) := by decide +kernel
theorem dL_seed_32 : decode cL_seed 32 = .ok (.iload_n 2, 1) := by decide +kernel
theorem dL_seed_33 : decode cL_seed 33 = .ok (.iaload, 1) := by decide +kernel
theorem dL_seed_34 : decode cL_seed 34 = .ok (.ixor, 1) := by decide +kernel
theorem dL_seed_35 : decode cL_seed 35 = .ok (.ldc 10, 2) := by decide +kernel
theorem dL_seed_37 : decode cL_seed 37 = .ok (.imul, 1) := by decide +kernel
theorem dL_seed_38 : decode cL_seed 38 = .ok (.iload_n 2, 1) := by decide +kernel
theorem dL_seed_39 : decode cL_seed 39 = .ok (.iadd, 1) := by decide +kernel
theorem dL_seed_40 : decode cL_seed 40 = .ok (.iastore, 1) := by decide +kernel
theorem dL_seed_41 : decode cL_seed 41 = .ok (.aload_n 1, 1) := by decide +kernel
theorem dL_seed_42 : decode cL_seed 42 = .ok (.iconst 1, 1) := by decide +kernel
theorem dL_seed_43 : decode cL_seed 43 = .ok (.aload_n 1, 1) := by decide +kernel
theorem dL_seed_44 : decode cL_seed 44 = .ok (.iconst 1, 1) := by decide +kernel
theorem dL_seed_45 : decode cL_seed 45 = .ok (.iaload, 1) := by decide +kernel
theorem dL_seed_46 : decode cL_seed 46 = .ok (.aload_n 0, 1) := by decide +kernel
theorem dL_seed_47 : decode cL_seed 47 = .ok (.iload_n 2, 1) := by decide +kernel
theorem dL_seed_48 : decode cL_seed 48 = .ok (.iaload, 1) := by decide +kernel
theorem dL_seed_49 : decode cL_seed 49 = .ok (.iadd, 1) := by decide +kernel
theorem dL_seed_50 : decode cL_seed 50 = .ok (.ldc 11, 2) := by decide +kernel
theorem dL_seed_52 : decode cL_seed 52 = .ok (.imul, 1) := by decide +kernel
theorem dL_seed_53 : decode cL_seed 53 = .ok (.aload_n 1, 1) := by decide +kernel
theorem dL_seed_54 : decode cL_seed 54 = .ok (.iconst 0, 1) := by decide +kernel
theorem dL_seed_55 : decode cL_seed 55 = .ok (.iaload, 1) := by decide +kernel
theorem dL_seed_56 : decode cL_seed 56 = .ok (.bipush 7, 2) := by decide +kernel
theorem dL_seed_58 : decode cL_seed 58 = .ok (.iushr, 1) := by decide +kernel
theorem dL_seed_59 : decode cL_seed 59 = .ok (.iadd, 1) := by decide +kernel
theorem dL_seed_60 : decode cL_seed 60 = .ok (.iastore, 1) := by decide +kernel
theorem dL_seed_61 : decode cL_seed 61 = .ok (.iinc 2 1, 3) := by decide +kernel
theorem dL_seed_64 : decode cL_seed 64 = .ok (.goto (-44), 3) := by decide +kernel

set_option maxHeartbeats 8000000 in
set_option maxRecDepth 100000 in
theorem c_L_seed (l : Launch) (hlf : l.stackTraces = false) (dC : Nat → ClassId) (dI : Nat → Nat → Nat) (g : Nat → ClassId) (a_s_ n_s_ : Nat) (s_ : Nat → Int32) (Q : Nat → (Nat → Int32) → Prop) (hw : wp_L_seed n_s_ s_ Q) (sz : Nat) : Met l yL_seed wqL_seed ({ frames := 0, cells := 1, slots := 2, locals := 0 }) (va_Pc [.ref a_s_] (PG (dC, dI) g [(a_s_, .inl (g 0, n_s_, .inl s_))] sz)) (va_Qq (fun (r : Option Nat) (u : Nat × Nat × (Nat → Int32) × Unit) => r = some u.1 ∧ (Q u.2.1 u.2.2.1)) (fun (u : Nat × Nat × (Nat → Int32) × Unit) t9 => va_P (dC, dI) vwCl [(a_s_, .inl (g 0, n_s_, .inl s_)), (u.1, .inl (g 0, u.2.1, .inl u.2.2.1))] t9.heap ∧ va_D (va_A [(a_s_, .inl (g 0, n_s_, .inl s_))] sz) [(a_s_, .inl (g 0, n_s_, .inl s_)), (u.1, .inl (g 0, u.2.1, .inl u.2.2.1))]) (va_A [(a_s_, .inl (g 0, n_s_, .inl s_))] sz)) 1 2 (va_A [(a_s_, .inl (g 0, n_s_, .inl s_))] sz) := by
  refine Met.ofW (cc := cL_seed) (maxL := 3) (ret := (some (.array .int))) (by decide) rfl ?_
  intro p e s m args below meth c s₁ B hml hv
  obtain ⟨rfl, hsz, hP, hK, hD0, hG⟩ := hv
  have hx := B.exec
  have hb := B.bytes
  have hr := B.returns
  have hts := atoms_spec (ws := wqL_seed) B.pre
  have hown : s.vm.findClass RL = some m.cls := findClass_of_methodNamed B.named
  have hlocks := B.notSynchronized
  subst hsz
  have hD := hD0.self (sz := s.heap.size)
  generalize hAe : va_A [(a_s_, .inl (g 0, n_s_, .inl s_))] s.heap.size = A at hD hG ⊢
  have hA : ∀ q : Nat, s.heap.size ≤ q → A q := fun q h => by rw [← hAe]; exact Or.inr h
  have hS : va_S A s.heap s.heap [] := va_S.rf
  have hrc : (headSpec wqL_seed ({ frames := 0, cells := 1, slots := 2, locals := 0 })).room.cells = 1 := rfl
  have hrs : (headSpec wqL_seed ({ frames := 0, cells := 1, slots := 2, locals := 0 })).room.slots = 2 := rfl
  have hl := lv_entry ([.ref a_s_]) (n := 3) (Nat.le_of_ble_eq_true rfl)
  rw [lg_entry_eq]
  generalize (lg_sl ([.ref a_s_]) ++ List.replicate (3 - (lg_sl ([.ref a_s_])).length) Slot.unset).toArray = ls at hl ⊢
  have hl : lv_has ls 3 [(0, .ref a_s_)] := hl
  unfold wp_L_seed at hw
  have hnaint := hts (Cond.arrayClass .int) (aw_l aw_1_57)
  have hk9 := hts (Jvm.Cond.constant RL 9 987654321) (aw_l aw_2_212)
  have hk10 := hts (Jvm.Cond.constant RL 10 16777619) (aw_l aw_2_213)
  have hk11 := hts (Jvm.Cond.constant RL 11 1103515245) (aw_l aw_2_214)
  refine lv_iconst (v := 2) hx hb dL_seed_0 (by decide) ?_
  refine va_newa (atype := .int) (a0 := (2, .inl (fun _ => 0))) hx hb hnaint rfl hK hP hD hS hA (fun _ => rfl) (by decide) (N' := 2) (by decide) (Nat.le_of_ble_eq_true rfl) (by rw [hrc]; omega) (by rw [hrs]; omega) dL_seed_1 (fun a_q_1 cA_3 H_2 hK9 hP hD hS => ?_)
  obtain rfl : g 0 = cA_3 := K_one hK9 0 5 rfl rfl
  obtain ⟨hP, hD⟩ := seg_join [[(a_s_, .inl (g 0, n_s_, .inl s_))]] [[(a_q_1, .inl (g 0, 2, .inl (fun _ => 0)))]] [[(a_s_, .inl (g 0, n_s_, .inl s_))], [(a_q_1, .inl (g 0, 2, .inl (fun _ => 0)))]] 2 [0, 1] rfl rfl (by decide) hP hD
  have hP : va_P (dC, dI) vwCl [(a_s_, .inl (g 0, n_s_, .inl s_)), (a_q_1, .inl (g 0, 2, .inl (fun _ => 0)))] H_2 := hP
  have hD : va_D A [(a_s_, .inl (g 0, n_s_, .inl s_)), (a_q_1, .inl (g 0, 2, .inl (fun _ => 0)))] := hD
  refine W.widen (k := 1) (n := 2) (by omega) (by omega) ?_
  refine lv_dup hx hb dL_seed_3 rfl ?_
  refine lv_iconst (v := 0) hx hb dL_seed_4 (by decide) ?_
  refine lv_aload_n hx hb dL_seed_5 rfl (lv_at hl 0 rfl) ?_
  refine va_alen hx hb hK hP 0 0 rfl rfl (v := nI n_s_) rfl dL_seed_6 ?_
  refine lv_sipush (v := 12345) hx hb dL_seed_7 (by decide) ?_
  refine lv_iadd hx hb dL_seed_10 ?_
  refine lv_topi (fun x_4 ex_4 => ?_)
  have hw := hw x_4 ex_4
  refine va_iast hx hb hK hP hD hS 1 0 rfl rfl (by unfold vp_in; decide) dL_seed_11 (fun H_5 L_6 hP hD hS => ?_)
  have hP : va_P (dC, dI) vwCl [(a_s_, .inl (g 0, n_s_, .inl s_)), (a_q_1, .inl (g 0, 2, .inl (upd (fun _ => 0) (0 : Int32).toNatClampNeg x_4)))] H_5 := hP
  have hD : va_D A [(a_s_, .inl (g 0, n_s_, .inl s_)), (a_q_1, .inl (g 0, 2, .inl (upd (fun _ => 0) (0 : Int32).toNatClampNeg x_4)))] := hD
  refine lv_dup hx hb dL_seed_12 rfl ?_
  refine lv_iconst (v := 1) hx hb dL_seed_13 (by decide) ?_
  refine lv_ldc hx hb hown hk9 dL_seed_14 ?_
  refine va_iast hx hb hK hP hD hS 1 0 rfl rfl (by unfold vp_in; decide) dL_seed_16 (fun H_7 L_8 hP hD hS => ?_)
  have hP : va_P (dC, dI) vwCl [(a_s_, .inl (g 0, n_s_, .inl s_)), (a_q_1, .inl (g 0, 2, .inl (upd (upd (fun _ => 0) (0 : Int32).toNatClampNeg x_4) (1 : Int32).toNatClampNeg 987654321)))] H_7 := hP
  have hD : va_D A [(a_s_, .inl (g 0, n_s_, .inl s_)), (a_q_1, .inl (g 0, 2, .inl (upd (upd (fun _ => 0) (0 : Int32).toNatClampNeg x_4) (1 : Int32).toNatClampNeg 987654321)))] := hD
  refine lv_astore_n (lv' := [(1, .ref a_q_1), (0, .ref a_s_)]) hx hb dL_seed_17 rfl hl (by decide) rfl (fun ls hl => ?_)
  refine lv_iconst (v := 0) hx hb dL_seed_18 (by decide) ?_
  refine lv_istore_n (lv' := [(2, .int 0), (1, .ref a_q_1), (0, .ref a_s_)]) hx hb dL_seed_19 rfl hl (by decide) rfl (fun ls hl => ?_)
  refine W_abs (fun QM hQM => ?_)
  have EX20_67 : ∀ (q1_11 : Nat → Int32) (H : Heap) (locs : List Loc), (wx_L_seed_20_67 Q) q1_11 → va_P (dC, dI) vwCl [(a_s_, .inl (g 0, n_s_, .inl s_)), (a_q_1, .inl (g 0, 2, .inl q1_11))] H → va_D A [(a_s_, .inl (g 0, n_s_, .inl s_)), (a_q_1, .inl (g 0, 2, .inl q1_11))] → va_S A s.heap H locs → ∀ (ls : Array Slot), lv_has ls 3 [(1, .ref a_q_1)] → W p l e (headSpec wqL_seed ({ frames := 0, cells := 1, slots := 2, locals := 0 })).room s m ([.ref a_s_] : List Value).toArray below meth c H locs 1 2 QM (F0 m 67 ls []) := by
    intro q1_11 H locs hw hP hD hS ls hl
    refine lv_aload_n hx hb dL_seed_67 rfl (lv_at hl 0 rfl) ?_
    refine W.widen (k := 1) (n := 2) (by omega) (by omega) ?_
    subst hQM
    exact W.aret (v := .ref a_q_1) hx hb hr (Or.inr ⟨_, rfl⟩) (Or.inr ⟨_, rfl⟩) (fun t ht hW => ⟨⟨some a_q_1, (a_q_1, 2, q1_11, ()), rfl, ⟨rfl, hw⟩, ⟨P_at ht hP, hD⟩⟩, hS.F ht⟩) hS.2.2 dL_seed_68
  have LOOP20 : ∀ (n20 : Nat) (v2_9 : Int32) (q1_10 : Nat → Int32) (H : Heap) (locs : List Loc), wl_L_seed_20 n_s_ s_ (wx_L_seed_20_67 Q) n20 v2_9 q1_10 → va_P (dC, dI) vwCl [(a_s_, .inl (g 0, n_s_, .inl s_)), (a_q_1, .inl (g 0, 2, .inl q1_10))] H → va_D A [(a_s_, .inl (g 0, n_s_, .inl s_)), (a_q_1, .inl (g 0, 2, .inl q1_10))] → va_S A s.heap H locs → ∀ (ls : Array Slot), lv_has ls 3 [(0, .ref a_s_), (1, .ref a_q_1), (2, .int v2_9)] → W p l e (headSpec wqL_seed ({ frames := 0, cells := 1, slots := 2, locals := 0 })).room s m ([.ref a_s_] : List Value).toArray below meth c H locs 1 2 QM (F0 m 20 ls []) := by
    intro n20
    induction n20 with
    | zero =>
      intro v2_9 q1_10 H locs hw hP hD hS ls hl
      exact False.elim hw
    | succ n20 ih20 =>
      intro v2_9 q1_10 H locs hw hP hD hS ls hl
      rw [wl_L_seed_20_s] at hw
      refine lv_iload_n hx hb dL_seed_20 rfl (lv_at hl 2 rfl) ?_
      refine lv_aload_n hx hb dL_seed_21 rfl (lv_at hl 0 rfl) ?_
      refine va_alen hx hb hK hP 0 0 rfl rfl (v := nI n_s_) rfl dL_seed_22 ?_
      refine lv_icmp_ge (tgt := 67) hx hb dL_seed_23 (by decide) (fun c_12 => ?_) (fun c_12 => ?_)
      · have hw := hw.1 c_12
        refine W.widen (k := 1) (n := 2) (by omega) (by omega) ?_
        exact EX20_67 q1_10 _ _ hw hP hD hS _ (lv_sub hl [1] rfl)
      · have hw := hw.2 c_12
        refine lv_aload_n hx hb dL_seed_26 rfl (lv_at hl 1 rfl) ?_
        refine lv_iconst (v := 0) hx hb dL_seed_27 (by decide) ?_
        refine lv_aload_n hx hb dL_seed_28 rfl (lv_at hl 1 rfl) ?_
        refine lv_iconst (v := 0) hx hb dL_seed_29 (by decide) ?_
        refine va_iald hx hb hK hP 1 0 rfl rfl (by unfold vp_in; decide) dL_seed_30 ?_
        refine lv_topi (fun x_13 ex_13 => ?_)
        have hw := hw x_13 ex_13
        refine lv_aload_n hx hb dL_seed_31 rfl (lv_at hl 0 rfl) ?_
        refine lv_iload_n hx hb dL_seed_32 rfl (lv_at hl 2 rfl) ?_
        refine va_iald hx hb hK hP 0 0 rfl rfl hw.1 dL_seed_33 ?_
        have hw := hw.2
        refine lv_topi (fun x_14 ex_14 => ?_)
        have hw := hw x_14 ex_14
        refine lv_ixor hx hb dL_seed_34 ?_
        refine lv_topi (fun x_15 ex_15 => ?_)
        have hw := hw x_15 ex_15
        refine lv_ldc hx hb hown hk10 dL_seed_35 ?_
        refine lv_imul hx hb dL_seed_37 ?_
        refine lv_topi (fun x_16 ex_16 => ?_)
        have hw := hw x_16 ex_16
        refine lv_iload_n hx hb dL_seed_38 rfl (lv_at hl 2 rfl) ?_
        refine lv_iadd hx hb dL_seed_39 ?_
        refine lv_topi (fun x_17 ex_17 => ?_)
        have hw := hw x_17 ex_17
        refine va_iast hx hb hK hP hD hS 1 0 rfl rfl (by unfold vp_in; decide) dL_seed_40 (fun H_18 L_19 hP hD hS => ?_)
        have hP : va_P (dC, dI) vwCl [(a_s_, .inl (g 0, n_s_, .inl s_)), (a_q_1, .inl (g 0, 2, .inl (upd q1_10 (0 : Int32).toNatClampNeg x_17)))] H_18 := hP
        have hD : va_D A [(a_s_, .inl (g 0, n_s_, .inl s_)), (a_q_1, .inl (g 0, 2, .inl (upd q1_10 (0 : Int32).toNatClampNeg x_17)))] := hD
        refine lv_aload_n hx hb dL_seed_41 rfl (lv_at hl 1 rfl) ?_
        refine lv_iconst (v := 1) hx hb dL_seed_42 (by decide) ?_
        refine lv_aload_n hx hb dL_seed_43 rfl (lv_at hl 1 rfl) ?_
        refine lv_iconst (v := 1) hx hb dL_seed_44 (by decide) ?_
        refine va_iald hx hb hK hP 1 0 rfl rfl (by unfold vp_in; decide) dL_seed_45 ?_
        refine lv_topi (fun x_20 ex_20 => ?_)
        have hw := hw x_20 ex_20
        refine lv_aload_n hx hb dL_seed_46 rfl (lv_at hl 0 rfl) ?_
        refine lv_iload_n hx hb dL_seed_47 rfl (lv_at hl 2 rfl) ?_
        refine va_iald hx hb hK hP 0 0 rfl rfl hw.1 dL_seed_48 ?_
        have hw := hw.2
        refine lv_topi (fun x_21 ex_21 => ?_)
        have hw := hw x_21 ex_21
        refine lv_iadd hx hb dL_seed_49 ?_
        refine lv_topi (fun x_22 ex_22 => ?_)
        have hw := hw x_22 ex_22
        refine lv_ldc hx hb hown hk11 dL_seed_50 ?_
        refine lv_imul hx hb dL_seed_52 ?_
        refine lv_topi (fun x_23 ex_23 => ?_)
        have hw := hw x_23 ex_23
        refine lv_aload_n hx hb dL_seed_53 rfl (lv_at hl 1 rfl) ?_
        refine lv_iconst (v := 0) hx hb dL_seed_54 (by decide) ?_
        refine va_iald hx hb hK hP 1 0 rfl rfl (by unfold vp_in; decide) dL_seed_55 ?_
        refine lv_topi (fun x_24 ex_24 => ?_)
        have hw := hw x_24 ex_24
        refine lv_bipush (v := 7) hx hb dL_seed_56 (by decide) ?_
        refine lv_iushr hx hb dL_seed_58 rfl ?_
        refine lv_topi (fun x_25 ex_25 => ?_)
        have hw := hw x_25 ex_25
        refine lv_iadd hx hb dL_seed_59 ?_
        refine lv_topi (fun x_26 ex_26 => ?_)
        have hw := hw x_26 ex_26
        refine va_iast hx hb hK hP hD hS 1 0 rfl rfl (by unfold vp_in; decide) dL_seed_60 (fun H_27 L_28 hP hD hS => ?_)
        have hP : va_P (dC, dI) vwCl [(a_s_, .inl (g 0, n_s_, .inl s_)), (a_q_1, .inl (g 0, 2, .inl (upd (upd q1_10 (0 : Int32).toNatClampNeg x_17) (1 : Int32).toNatClampNeg x_26)))] H_27 := hP
        have hD : va_D A [(a_s_, .inl (g 0, n_s_, .inl s_)), (a_q_1, .inl (g 0, 2, .inl (upd (upd q1_10 (0 : Int32).toNatClampNeg x_17) (1 : Int32).toNatClampNeg x_26)))] := hD
        obtain ⟨x_29, ex_29⟩ : ∃ y : Int32, y = v2_9 + 1 := ⟨_, rfl⟩
        have hw := hw x_29 ex_29
        refine lv_iinc (v := x_29) (lv' := [(2, .int x_29), (0, .ref a_s_), (1, .ref a_q_1)]) hx hb dL_seed_61 hl (k := 2) rfl (by rw [ex_29]; rfl) (by decide) rfl (fun ls hl => ?_)
        refine lv_goto (tgt := 20) hx hb dL_seed_64 (by decide) ?_
        refine W.widen (k := 1) (n := 2) (by omega) (by omega) ?_
        exact ih20 x_29 (upd (upd q1_10 (0 : Int32).toNatClampNeg x_17) (1 : Int32).toNatClampNeg x_26) _ _ hw hP hD hS _ (lv_sub hl [1, 2, 0] rfl)
  obtain ⟨n20, hw⟩ := hw
  refine W.widen (k := 1) (n := 2) (by omega) (by omega) ?_
  exact LOOP20 n20 0 (upd (upd (fun _ => 0) (0 : Int32).toNatClampNeg x_4) (1 : Int32).toNatClampNeg 987654321) _ _ hw hP hD hS _ (lv_sub hl [2, 1, 0] rfl)
theorem dL_least_0 : decode cL_least 0 = .ok (.iconst 0, 1) := by decide +kernel
theorem dL_least_1 : decode cL_least 1 = .ok (.istore_n 2, 1) := by decide +kernel
theorem dL_least_2 : decode cL_least 2 = .ok (.iconst 1, 1) := by decide +kernel
theorem dL_least_3 : decode cL_least 3 = .ok (.istore_n 3, 1) := by decide +kernel
theorem dL_least_30 : decode cL_least 30 = .ok (.iload_n 2, 1) := by decide +kernel
theorem dL_least_31 : decode cL_least 31 = .ok (.ireturn, 1) := by decide +kernel
theorem dL_least_4 : decode cL_least 4 = .ok (.iload_n 3, 1) := by decide +kernel
theorem dL_least_5 : decode cL_least 5 = .ok (.iload_n 1, 1) := by decide +kernel
theorem dL_least_6 : decode cL_least 6 = .ok (.if_icmp .ge 24, 3) := by decide +kernel
theorem dL_least_9 : decode cL_least 9 = .ok (.aload_n 0, 1) := by decide +kernel
theorem dL_least_10 : decode cL_least 10 = .ok (.iload_n 3, 1) := by decide +kernel
theorem dL_least_11 : decode cL_least 11 = .ok (.iaload, 1) := by decide +kernel
theorem dL_least_12 : decode cL_least 12 = .ok (.aload_n 0, 1) := by decide +kernel
theorem dL_least_13 : decode cL_least 13 = .ok (.iload_n 2, 1) := by decide +kernel
theorem dL_least_14 : decode cL_least 14 = .ok (.iaload, 1) := by decide +kernel
theorem dL_least_15 : decode cL_least 15 = .ok (.if_icmp .ge 7, 3) := by decide +kernel
theorem dL_least_22 : decode cL_least 22 = .ok (.iload_n 2, 1) := by decide +kernel
theorem dL_least_23 : decode cL_least 23 = .ok (.istore_n 2, 1) := by decide +kernel
theorem dL_least_24 : decode cL_least 24 = .ok (.iinc 3 1, 3) := by decide +kernel
theorem dL_least_27 : decode cL_least 27 = .ok (.goto (-23), 3) := by decide +kernel
theorem dL_least_18 : decode cL_least 18 = .ok (.iload_n 3, 1) := by decide +kernel
theorem dL_least_19 : decode cL_least 19 = .ok (.goto 4, 3) := by decide +kernel

set_option maxHeartbeats 8000000 in
set_option maxRecDepth 100000 in
theorem c_L_least (l : Launch) (hlf : l.stackTraces = false) (dC : Nat → ClassId) (dI : Nat → Nat → Nat) (g : Nat → ClassId) (a_all n_all : Nat) (all : Nat → Int32) (many : Int32) (Q : Int32 → Prop) (hw : wp_L_least n_all all many Q) (sz : Nat) : Met l yL_least wqL_least ({ frames := 0, cells := 0, slots := 0, locals := 0 }) (va_Pc [.ref a_all, .int many] (PG (dC, dI) g [(a_all, .inl (g 0, n_all, .inl all))] sz)) (va_Qi (fun (r : Int32) (u : Unit) => Q r) (fun (u : Unit) t9 => va_P (dC, dI) vwCl [(a_all, .inl (g 0, n_all, .inl all))] t9.heap ∧ va_D (va_A [(a_all, .inl (g 0, n_all, .inl all))] sz) [(a_all, .inl (g 0, n_all, .inl all))]) (va_A [(a_all, .inl (g 0, n_all, .inl all))] sz)) 0 0 (va_A [(a_all, .inl (g 0, n_all, .inl all))] sz) := by
  refine Met.ofW (cc := cL_least) (maxL := 4) (ret := (some .int)) (by decide) rfl ?_
  intro p e s m args below meth c s₁ B hml hv
  obtain ⟨rfl, hsz, hP, hK, hD0, hG⟩ := hv
  have hx := B.exec
  have hb := B.bytes
  have hr := B.returns
  have hts := atoms_spec (ws := wqL_least) B.pre
  have hown : s.vm.findClass RL = some m.cls := findClass_of_methodNamed B.named
  have hlocks := B.notSynchronized
  subst hsz
  have hD := hD0.self (sz := s.heap.size)
  generalize hAe : va_A [(a_all, .inl (g 0, n_all, .inl all))] s.heap.size = A at hD hG ⊢
  have hA : ∀ q : Nat, s.heap.size ≤ q → A q := fun q h => by rw [← hAe]; exact Or.inr h
  have hS : va_S A s.heap s.heap [] := va_S.rf
  have hrc : (headSpec wqL_least ({ frames := 0, cells := 0, slots := 0, locals := 0 })).room.cells = 0 := rfl
  have hrs : (headSpec wqL_least ({ frames := 0, cells := 0, slots := 0, locals := 0 })).room.slots = 0 := rfl
  have hl := lv_entry ([.ref a_all, .int many]) (n := 4) (Nat.le_of_ble_eq_true rfl)
  rw [lg_entry_eq]
  generalize (lg_sl ([.ref a_all, .int many]) ++ List.replicate (4 - (lg_sl ([.ref a_all, .int many])).length) Slot.unset).toArray = ls at hl ⊢
  have hl : lv_has ls 4 [(0, .ref a_all), (1, .int many)] := hl
  unfold wp_L_least at hw
  refine lv_iconst (v := 0) hx hb dL_least_0 (by decide) ?_
  refine lv_istore_n (lv' := [(2, .int 0), (0, .ref a_all), (1, .int many)]) hx hb dL_least_1 rfl hl (by decide) rfl (fun ls hl => ?_)
  refine lv_iconst (v := 1) hx hb dL_least_2 (by decide) ?_
  refine lv_istore_n (lv' := [(3, .int 1), (2, .int 0), (0, .ref a_all), (1, .int many)]) hx hb dL_least_3 rfl hl (by decide) rfl (fun ls hl => ?_)
  refine W_abs (fun QM hQM => ?_)
  have EX4_30 : ∀ (v2_3 : Int32) (H : Heap) (locs : List Loc), (wx_L_least_4_30 Q) v2_3 → va_P (dC, dI) vwCl [(a_all, .inl (g 0, n_all, .inl all))] H → va_D A [(a_all, .inl (g 0, n_all, .inl all))] → va_S A s.heap H locs → ∀ (ls : Array Slot), lv_has ls 4 [(2, .int v2_3)] → W p l e (headSpec wqL_least ({ frames := 0, cells := 0, slots := 0, locals := 0 })).room s m ([.ref a_all, .int many] : List Value).toArray below meth c H locs 0 0 QM (F0 m 30 ls []) := by
    intro v2_3 H locs hw hP hD hS ls hl
    refine lv_iload_n hx hb dL_least_30 rfl (lv_at hl 0 rfl) ?_
    refine W.widen (k := 0) (n := 0) (by omega) (by omega) ?_
    subst hQM
    exact W.iret (v := v2_3) hx hb hr (fun t ht hW => ⟨⟨v2_3, (()), rfl, hw, ⟨P_at ht hP, hD⟩⟩, hS.F ht⟩) hS.2.2 dL_least_31
  have LOOP4 : ∀ (n4 : Nat) (v3_1 : Int32) (v2_2 : Int32) (H : Heap) (locs : List Loc), wl_L_least_4 n_all all many (wx_L_least_4_30 Q) n4 v3_1 v2_2 → va_P (dC, dI) vwCl [(a_all, .inl (g 0, n_all, .inl all))] H → va_D A [(a_all, .inl (g 0, n_all, .inl all))] → va_S A s.heap H locs → ∀ (ls : Array Slot), lv_has ls 4 [(0, .ref a_all), (1, .int many), (2, .int v2_2), (3, .int v3_1)] → W p l e (headSpec wqL_least ({ frames := 0, cells := 0, slots := 0, locals := 0 })).room s m ([.ref a_all, .int many] : List Value).toArray below meth c H locs 0 0 QM (F0 m 4 ls []) := by
    intro n4
    induction n4 with
    | zero =>
      intro v3_1 v2_2 H locs hw hP hD hS ls hl
      exact False.elim hw
    | succ n4 ih4 =>
      intro v3_1 v2_2 H locs hw hP hD hS ls hl
      rw [wl_L_least_4_s] at hw
      refine lv_iload_n hx hb dL_least_4 rfl (lv_at hl 3 rfl) ?_
      refine lv_iload_n hx hb dL_least_5 rfl (lv_at hl 1 rfl) ?_
      refine lv_icmp_ge (tgt := 30) hx hb dL_least_6 (by decide) (fun c_4 => ?_) (fun c_4 => ?_)
      · have hw := hw.1 c_4
        refine W.widen (k := 0) (n := 0) (by omega) (by omega) ?_
        exact EX4_30 v2_2 _ _ hw hP hD hS _ (lv_sub hl [2] rfl)
      · have hw := hw.2 c_4
        refine lv_aload_n hx hb dL_least_9 rfl (lv_at hl 0 rfl) ?_
        refine lv_iload_n hx hb dL_least_10 rfl (lv_at hl 3 rfl) ?_
        refine va_iald hx hb hK hP 0 0 rfl rfl hw.1 dL_least_11 ?_
        have hw := hw.2
        refine lv_topi (fun x_5 ex_5 => ?_)
        have hw := hw x_5 ex_5
        refine lv_aload_n hx hb dL_least_12 rfl (lv_at hl 0 rfl) ?_
        refine lv_iload_n hx hb dL_least_13 rfl (lv_at hl 2 rfl) ?_
        refine va_iald hx hb hK hP 0 0 rfl rfl hw.1 dL_least_14 ?_
        have hw := hw.2
        refine lv_topi (fun x_6 ex_6 => ?_)
        have hw := hw x_6 ex_6
        refine lv_icmp_ge (tgt := 22) hx hb dL_least_15 (by decide) (fun c_7 => ?_) (fun c_7 => ?_)
        · have hw := hw.1 c_7
          refine lv_iload_n hx hb dL_least_22 rfl (lv_at hl 2 rfl) ?_
          refine lv_istore_n (lv' := [(2, .int v2_2), (0, .ref a_all), (1, .int many), (3, .int v3_1)]) hx hb dL_least_23 rfl hl (by decide) rfl (fun ls hl => ?_)
          obtain ⟨x_8, ex_8⟩ : ∃ y : Int32, y = v3_1 + 1 := ⟨_, rfl⟩
          have hw := hw x_8 ex_8
          refine lv_iinc (v := x_8) (lv' := [(3, .int x_8), (2, .int v2_2), (0, .ref a_all), (1, .int many)]) hx hb dL_least_24 hl (k := 3) rfl (by rw [ex_8]; rfl) (by decide) rfl (fun ls hl => ?_)
          refine lv_goto (tgt := 4) hx hb dL_least_27 (by decide) ?_
          refine W.widen (k := 0) (n := 0) (by omega) (by omega) ?_
          exact ih4 x_8 v2_2 _ _ hw hP hD hS _ (lv_sub hl [2, 3, 1, 0] rfl)
        · have hw := hw.2 c_7
          refine lv_iload_n hx hb dL_least_18 rfl (lv_at hl 3 rfl) ?_
          refine lv_goto (tgt := 23) hx hb dL_least_19 (by decide) ?_
          refine lv_istore_n (lv' := [(2, .int v3_1), (0, .ref a_all), (1, .int many), (3, .int v3_1)]) hx hb dL_least_23 rfl hl (by decide) rfl (fun ls hl => ?_)
          obtain ⟨x_9, ex_9⟩ : ∃ y : Int32, y = v3_1 + 1 := ⟨_, rfl⟩
          have hw := hw x_9 ex_9
          refine lv_iinc (v := x_9) (lv' := [(3, .int x_9), (2, .int v3_1), (0, .ref a_all), (1, .int many)]) hx hb dL_least_24 hl (k := 3) rfl (by rw [ex_9]; rfl) (by decide) rfl (fun ls hl => ?_)
          refine lv_goto (tgt := 4) hx hb dL_least_27 (by decide) ?_
          refine W.widen (k := 0) (n := 0) (by omega) (by omega) ?_
          exact ih4 x_9 v3_1 _ _ hw hP hD hS _ (lv_sub hl [2, 3, 1, 0] rfl)
  obtain ⟨n4, hw⟩ := hw
  refine W.widen (k := 0) (n := 0) (by omega) (by omega) ?_
  exact LOOP4 n4 1 0 _ _ hw hP hD hS _ (lv_sub hl [2, 3, 1, 0] rfl)
theorem dL_takes_0 : decode cL_takes 0 = .ok (.aload_n 0, 1) := by decide +kernel
theorem dL_takes_1 : decode cL_takes 1 = .ok (.iload_n 2, 1) := by decide +kernel
theorem dL_takes_2 : decode cL_takes 2 = .ok (.iaload, 1) := by decide +kernel
theorem dL_takes_3 : decode cL_takes 3 = .ok (.istore_n 3, 1) := by decide +kernel
theorem dL_takes_4 : decode cL_takes 4 = .ok (.iload_n 2, 1) := by decide +kernel
theorem dL_takes_5 : decode cL_takes 5 = .ok (.istore 4, 2) := by decide +kernel
theorem dL_takes_31 : decode cL_takes 31 = .ok (.iload_n 3, 1) := by decide +kernel
theorem dL_takes_32 : decode cL_takes 32 = .ok (.ireturn, 1) := by decide +kernel
theorem dL_takes_7 : decode cL_takes 7 = .ok (.iload 4, 2) := by decide +kernel
theorem dL_takes_9 : decode cL_takes 9 = .ok (.iload_n 1, 1) := by decide +kernel
theorem dL_takes_10 : decode cL_takes 10 = .ok (.iconst 1, 1) := by decide +kernel
theorem dL_takes_11 : decode cL_takes 11 = .ok (.isub, 1) := by decide +kernel
theorem dL_takes_12 : decode cL_takes 12 = .ok (.if_icmp .ge 19, 3) := by decide +kernel
theorem dL_takes_15 : decode cL_takes 15 = .ok (.aload_n 0, 1) := by decide +kernel
theorem dL_takes_16 : decode cL_takes 16 = .ok (.iload 4, 2) := by decide +kernel
theorem dL_takes_18 : decode cL_takes 18 = .ok (.aload_n 0, 1) := by decide +kernel
theorem dL_takes_19 : decode cL_takes 19 = .ok (.iload 4, 2) := by decide +kernel
theorem dL_takes_21 : decode cL_takes 21 = .ok (.iconst 1, 1) := by decide +kernel
theorem dL_takes_22 : decode cL_takes 22 = .ok (.iadd, 1) := by decide +kernel
theorem dL_takes_23 : decode cL_takes 23 = .ok (.iaload, 1) := by decide +kernel
theorem dL_takes_24 : decode cL_takes 24 = .ok (.iastore, 1) := by decide +kernel
theorem dL_takes_25 : decode cL_takes 25 = .ok (.iinc 4 1, 3) := by decide +kernel
theorem dL_takes_28 : decode cL_takes 28 = .ok (.goto (-21), 3) := by decide +kernel

set_option maxHeartbeats 8000000 in
set_option maxRecDepth 100000 in
theorem c_L_takes (l : Launch) (hlf : l.stackTraces = false) (dC : Nat → ClassId) (dI : Nat → Nat → Nat) (g : Nat → ClassId) (a_all n_all : Nat) (all : Nat → Int32) (many : Int32) (at_ : Int32) (Q : Int32 → (Nat → Int32) → Prop) (hw : wp_L_takes n_all all many at_ Q) (sz : Nat) : Met l yL_takes wqL_takes ({ frames := 0, cells := 0, slots := 0, locals := 0 }) (va_Pc [.ref a_all, .int many, .int at_] (PG (dC, dI) g [(a_all, .inl (g 0, n_all, .inl all))] sz)) (va_Qi (fun (r : Int32) (u : (Nat → Int32) × Unit) => Q r u.1) (fun (u : (Nat → Int32) × Unit) t9 => va_P (dC, dI) vwCl [(a_all, .inl (g 0, n_all, .inl u.1))] t9.heap ∧ va_D (va_A [(a_all, .inl (g 0, n_all, .inl all))] sz) [(a_all, .inl (g 0, n_all, .inl u.1))]) (va_A [(a_all, .inl (g 0, n_all, .inl all))] sz)) 0 0 (va_A [(a_all, .inl (g 0, n_all, .inl all))] sz) := by
  refine Met.ofW (cc := cL_takes) (maxL := 5) (ret := (some .int)) (by decide) rfl ?_
  intro p e s m args below meth c s₁ B hml hv
  obtain ⟨rfl, hsz, hP, hK, hD0, hG⟩ := hv
  have hx := B.exec
  have hb := B.bytes
  have hr := B.returns
  have hts := atoms_spec (ws := wqL_takes) B.pre
  have hown : s.vm.findClass RL = some m.cls := findClass_of_methodNamed B.named
  have hlocks := B.notSynchronized
  subst hsz
  have hD := hD0.self (sz := s.heap.size)
  generalize hAe : va_A [(a_all, .inl (g 0, n_all, .inl all))] s.heap.size = A at hD hG ⊢
  have hA : ∀ q : Nat, s.heap.size ≤ q → A q := fun q h => by rw [← hAe]; exact Or.inr h
  have hS : va_S A s.heap s.heap [] := va_S.rf
  have hrc : (headSpec wqL_takes ({ frames := 0, cells := 0, slots := 0, locals := 0 })).room.cells = 0 := rfl
  have hrs : (headSpec wqL_takes ({ frames := 0, cells := 0, slots := 0, locals := 0 })).room.slots = 0 := rfl
  have hl := lv_entry ([.ref a_all, .int many, .int at_]) (n := 5) (Nat.le_of_ble_eq_true rfl)
  rw [lg_entry_eq]
  generalize (lg_sl ([.ref a_all, .int many, .int at_]) ++ List.replicate (5 - (lg_sl ([.ref a_all, .int many, .int at_])).length) Slot.unset).toArray = ls at hl ⊢
  have hl : lv_has ls 5 [(0, .ref a_all), (1, .int many), (2, .int at_)] := hl
  unfold wp_L_takes at hw
  refine lv_aload_n hx hb dL_takes_0 rfl (lv_at hl 0 rfl) ?_
  refine lv_iload_n hx hb dL_takes_1 rfl (lv_at hl 2 rfl) ?_
  refine va_iald hx hb hK hP 0 0 rfl rfl hw.1 dL_takes_2 ?_
  have hw := hw.2
  refine lv_topi (fun x_1 ex_1 => ?_)
  have hw := hw x_1 ex_1
  refine lv_istore_n (lv' := [(3, .int x_1), (0, .ref a_all), (1, .int many), (2, .int at_)]) hx hb dL_takes_3 rfl hl (by decide) rfl (fun ls hl => ?_)
  refine lv_iload_n hx hb dL_takes_4 rfl (lv_at hl 3 rfl) ?_
  refine lv_istore (lv' := [(4, .int at_), (3, .int x_1), (0, .ref a_all), (1, .int many), (2, .int at_)]) hx hb dL_takes_5 hl (by decide) rfl (fun ls hl => ?_)
  refine W_abs (fun QM hQM => ?_)
  have EX7_31 : ∀ (all_4 : Nat → Int32) (H : Heap) (locs : List Loc), (wx_L_takes_7_31 Q x_1) all_4 → va_P (dC, dI) vwCl [(a_all, .inl (g 0, n_all, .inl all_4))] H → va_D A [(a_all, .inl (g 0, n_all, .inl all_4))] → va_S A s.heap H locs → ∀ (ls : Array Slot), lv_has ls 5 [(3, .int x_1)] → W p l e (headSpec wqL_takes ({ frames := 0, cells := 0, slots := 0, locals := 0 })).room s m ([.ref a_all, .int many, .int at_] : List Value).toArray below meth c H locs 0 0 QM (F0 m 31 ls []) := by
    intro all_4 H locs hw hP hD hS ls hl
    refine lv_iload_n hx hb dL_takes_31 rfl (lv_at hl 0 rfl) ?_
    refine W.widen (k := 0) (n := 0) (by omega) (by omega) ?_
    subst hQM
    exact W.iret (v := x_1) hx hb hr (fun t ht hW => ⟨⟨x_1, (all_4, ()), rfl, hw, ⟨P_at ht hP, hD⟩⟩, hS.F ht⟩) hS.2.2 dL_takes_32
  have LOOP7 : ∀ (n7 : Nat) (v4_2 : Int32) (all_3 : Nat → Int32) (H : Heap) (locs : List Loc), wl_L_takes_7 n_all many (wx_L_takes_7_31 Q x_1) n7 v4_2 all_3 → va_P (dC, dI) vwCl [(a_all, .inl (g 0, n_all, .inl all_3))] H → va_D A [(a_all, .inl (g 0, n_all, .inl all_3))] → va_S A s.heap H locs → ∀ (ls : Array Slot), lv_has ls 5 [(0, .ref a_all), (1, .int many), (3, .int x_1), (4, .int v4_2)] → W p l e (headSpec wqL_takes ({ frames := 0, cells := 0, slots := 0, locals := 0 })).room s m ([.ref a_all, .int many, .int at_] : List Value).toArray below meth c H locs 0 0 QM (F0 m 7 ls []) := by
    intro n7
    induction n7 with
    | zero =>
      intro v4_2 all_3 H locs hw hP hD hS ls hl
      exact False.elim hw
    | succ n7 ih7 =>
      intro v4_2 all_3 H locs hw hP hD hS ls hl
      rw [wl_L_takes_7_s] at hw
      refine lv_iload hx hb dL_takes_7 (lv_at hl 3 rfl) ?_
      refine lv_iload_n hx hb dL_takes_9 rfl (lv_at hl 1 rfl) ?_
      refine lv_iconst (v := 1) hx hb dL_takes_10 (by decide) ?_
      refine lv_isub hx hb dL_takes_11 ?_
      refine lv_topi (fun x_5 ex_5 => ?_)
      have hw := hw x_5 ex_5
      refine lv_icmp_ge (tgt := 31) hx hb dL_takes_12 (by decide) (fun c_6 => ?_) (fun c_6 => ?_)
      · have hw := hw.1 c_6
        refine W.widen (k := 0) (n := 0) (by omega) (by omega) ?_
        exact EX7_31 all_3 _ _ hw hP hD hS _ (lv_sub hl [2] rfl)
      · have hw := hw.2 c_6
        refine lv_aload_n hx hb dL_takes_15 rfl (lv_at hl 0 rfl) ?_
        refine lv_iload hx hb dL_takes_16 (lv_at hl 3 rfl) ?_
        refine lv_aload_n hx hb dL_takes_18 rfl (lv_at hl 0 rfl) ?_
        refine lv_iload hx hb dL_takes_19 (lv_at hl 3 rfl) ?_
        refine lv_iconst (v := 1) hx hb dL_takes_21 (by decide) ?_
        refine lv_iadd hx hb dL_takes_22 ?_
        refine lv_topi (fun x_7 ex_7 => ?_)
        have hw := hw x_7 ex_7
        refine va_iald hx hb hK hP 0 0 rfl rfl hw.1 dL_takes_23 ?_
        have hw := hw.2
        refine lv_topi (fun x_8 ex_8 => ?_)
        have hw := hw x_8 ex_8
        refine va_iast hx hb hK hP hD hS 0 0 rfl rfl hw.1 dL_takes_24 (fun H_9 L_10 hP hD hS => ?_)
        have hw := hw.2
        have hP : va_P (dC, dI) vwCl [(a_all, .inl (g 0, n_all, .inl (upd all_3 v4_2.toNatClampNeg x_8)))] H_9 := hP
        have hD : va_D A [(a_all, .inl (g 0, n_all, .inl (upd all_3 v4_2.toNatClampNeg x_8)))] := hD
        obtain ⟨x_11, ex_11⟩ : ∃ y : Int32, y = v4_2 + 1 := ⟨_, rfl⟩
        have hw := hw x_11 ex_11
        refine lv_iinc (v := x_11) (lv' := [(4, .int x_11), (0, .ref a_all), (1, .int many), (3, .int x_1)]) hx hb dL_takes_25 hl (k := 3) rfl (by rw [ex_11]; rfl) (by decide) rfl (fun ls hl => ?_)
        refine lv_goto (tgt := 7) hx hb dL_takes_28 (by decide) ?_
        refine W.widen (k := 0) (n := 0) (by omega) (by omega) ?_
        exact ih7 x_11 (upd all_3 v4_2.toNatClampNeg x_8) _ _ hw hP hD hS _ (lv_sub hl [1, 2, 3, 0] rfl)
  obtain ⟨n7, hw⟩ := hw
  refine W.widen (k := 0) (n := 0) (by omega) (by omega) ?_
  exact LOOP7 n7 at_ all _ _ hw hP hD hS _ (lv_sub hl [2, 3, 1, 0] rfl)
theorem dL_same_0 : decode cL_same 0 = .ok (.aload_n 0, 1) := by decide +kernel
theorem dL_same_1 : decode cL_same 1 = .ok (.arraylength, 1) := by decide +kernel
theorem dL_same_2 : decode cL_same 2 = .ok (.aload_n 1, 1) := by decide +kernel
theorem dL_same_3 : decode cL_same 3 = .ok (.arraylength, 1) := by decide +kernel
theorem dL_same_12 : decode cL_same 12 = .ok (.istore_n 2, 1) := by decide +kernel
theorem dL_same_13 : decode cL_same 13 = .ok (.iconst 0, 1) := by decide +kernel
theorem dL_same_14 : decode cL_same 14 = .ok (.istore_n 3, 1) := by decide +kernel
theorem dL_same_46 : decode cL_same 46 = .ok (.iload_n 2, 1) := by decide +kernel
theorem dL_same_47 : decode cL_same 47 = .ok (.ireturn, 1) := by decide +kernel
theorem dL_same_15 : decode cL_same 15 = .ok (.iload_n 3, 1) := by decide +kernel
theorem dL_same_16 : decode cL_same 16 = .ok (.aload_n 0, 1) := by decide +kernel
theorem dL_same_17 : decode cL_same 17 = .ok (.arraylength, 1) := by decide +kernel
theorem dL_same_18 : decode cL_same 18 = .ok (.if_icmp .ge 28, 3) := by decide +kernel
theorem dL_same_21 : decode cL_same 21 = .ok (.iload_n 2, 1) := by decide +kernel
theorem dL_same_22 : decode cL_same 22 = .ok (.ifCond .eq 24, 3) := by decide +kernel
theorem dL_same_25 : decode cL_same 25 = .ok (.aload_n 0, 1) := by decide +kernel
theorem dL_same_26 : decode cL_same 26 = .ok (.iload_n 3, 1) := by decide +kernel
theorem dL_same_27 : decode cL_same 27 = .ok (.iaload, 1) := by decide +kernel
theorem dL_same_28 : decode cL_same 28 = .ok (.aload_n 1, 1) := by decide +kernel
theorem dL_same_29 : decode cL_same 29 = .ok (.iload_n 3, 1) := by decide +kernel
theorem dL_same_30 : decode cL_same 30 = .ok (.iaload, 1) := by decide +kernel
theorem dL_same_31 : decode cL_same 31 = .ok (.if_icmp .ne 7, 3) := by decide +kernel
theorem dL_same_38 : decode cL_same 38 = .ok (.iconst 0, 1) := by decide +kernel
theorem dL_same_39 : decode cL_same 39 = .ok (.istore_n 2, 1) := by decide +kernel
theorem dL_same_40 : decode cL_same 40 = .ok (.iinc 3 1, 3) := by decide +kernel
theorem dL_same_43 : decode cL_same 43 = .ok (.goto (-28), 3) := by decide +kernel
theorem dL_same_34 : decode cL_same 34 = .ok (.iconst 1, 1) := by decide +kernel
theorem dL_same_35 : decode cL_same 35 = .ok (.goto 4, 3) := by decide +kernel
theorem dL_same_4 : decode cL_same 4 = .ok (.if_icmp .ne 7, 3) := by decide +kernel
theorem dL_same_11 : decode cL_same 11 = .ok (.iconst 0, 1) := by decide +kernel
theorem dL_same_7 : decode cL_same 7 = .ok (.iconst 1, 1) := by decide +kernel
theorem dL_same_8 : decode cL_same 8 = .ok (.goto 4, 3) := by decide +kernel

set_option maxHeartbeats 8000000 in
set_option maxRecDepth 100000 in
theorem c_L_same (l : Launch) (hlf : l.stackTraces = false) (dC : Nat → ClassId) (dI : Nat → Nat → Nat) (g : Nat → ClassId) (a_a_ n_a_ : Nat) (a_ : Nat → Int32) (a_b_ n_b_ : Nat) (b_ : Nat → Int32) (Q : Bool → Prop) (hw : wp_L_same n_a_ a_ n_b_ b_ Q) (sz : Nat) : Met l yL_same wqL_same ({ frames := 0, cells := 0, slots := 0, locals := 0 }) (va_Pc [.ref a_a_, .ref a_b_] (PG (dC, dI) g [(a_a_, .inl (g 0, n_a_, .inl a_)), (a_b_, .inl (g 0, n_b_, .inl b_))] sz)) (va_Qi (fun (r : Int32) (u : Unit) => ∃ b : Bool, r = b2i b ∧ (Q b)) (fun (u : Unit) t9 => va_P (dC, dI) vwCl [(a_a_, .inl (g 0, n_a_, .inl a_)), (a_b_, .inl (g 0, n_b_, .inl b_))] t9.heap ∧ va_D (va_A [(a_a_, .inl (g 0, n_a_, .inl a_)), (a_b_, .inl (g 0, n_b_, .inl b_))] sz) [(a_a_, .inl (g 0, n_a_, .inl a_)), (a_b_, .inl (g 0, n_b_, .inl b_))]) (va_A [(a_a_, .inl (g 0, n_a_, .inl a_)), (a_b_, .inl (g 0, n_b_, .inl b_))] sz)) 0 0 (va_A [(a_a_, .inl (g 0, n_a_, .inl a_)), (a_b_, .inl (g 0, n_b_, .inl b_))] sz) := by
  refine Met.ofW (cc := cL_same) (maxL := 4) (ret := (some .boolean)) (by decide) rfl ?_
  intro p e s m args below meth c s₁ B hml hv
  obtain ⟨rfl, hsz, hP, hK, hD0, hG⟩ := hv
  have hx := B.exec
  have hb := B.bytes
  have hr := B.returns
  have hts := atoms_spec (ws := wqL_same) B.pre
  have hown : s.vm.findClass RL = some m.cls := findClass_of_methodNamed B.named
  have hlocks := B.notSynchronized
  subst hsz
  have hD := hD0.self (sz := s.heap.size)
  generalize hAe : va_A [(a_a_, .inl (g 0, n_a_, .inl a_)), (a_b_, .inl (g 0, n_b_, .inl b_))] s.heap.size = A at hD hG ⊢
  have hA : ∀ q : Nat, s.heap.size ≤ q → A q := fun q h => by rw [← hAe]; exact Or.inr h
  have hS : va_S A s.heap s.heap [] := va_S.rf
  have hrc : (headSpec wqL_same ({ frames := 0, cells := 0, slots := 0, locals := 0 })).room.cells = 0 := rfl
  have hrs : (headSpec wqL_same ({ frames := 0, cells := 0, slots := 0, locals := 0 })).room.slots = 0 := rfl
  have hl := lv_entry ([.ref a_a_, .ref a_b_]) (n := 4) (Nat.le_of_ble_eq_true rfl)
  rw [lg_entry_eq]
  generalize (lg_sl ([.ref a_a_, .ref a_b_]) ++ List.replicate (4 - (lg_sl ([.ref a_a_, .ref a_b_])).length) Slot.unset).toArray = ls at hl ⊢
  have hl : lv_has ls 4 [(0, .ref a_a_), (1, .ref a_b_)] := hl
  unfold wp_L_same at hw
  refine lv_aload_n hx hb dL_same_0 rfl (lv_at hl 0 rfl) ?_
  refine va_alen hx hb hK hP 0 0 rfl rfl (v := nI n_a_) rfl dL_same_1 ?_
  refine lv_aload_n hx hb dL_same_2 rfl (lv_at hl 1 rfl) ?_
  refine va_alen hx hb hK hP 1 0 rfl rfl (v := nI n_b_) rfl dL_same_3 ?_
  refine W_abs (fun QM hQM => ?_)
  have JN12 : ∀ (sk0_1 : Bool) (H : Heap) (locs : List Loc), (wj_L_same_12 n_a_ a_ n_b_ b_ Q) sk0_1 → va_P (dC, dI) vwCl [(a_a_, .inl (g 0, n_a_, .inl a_)), (a_b_, .inl (g 0, n_b_, .inl b_))] H → va_D A [(a_a_, .inl (g 0, n_a_, .inl a_)), (a_b_, .inl (g 0, n_b_, .inl b_))] → va_S A s.heap H locs → ∀ (ls : Array Slot), lv_has ls 4 [(0, .ref a_a_), (1, .ref a_b_)] → W p l e (headSpec wqL_same ({ frames := 0, cells := 0, slots := 0, locals := 0 })).room s m ([.ref a_a_, .ref a_b_] : List Value).toArray below meth c H locs 0 0 QM (F0 m 12 ls [.int (b2i sk0_1)]) := by
    intro sk0_1 H locs hw hP hD hS ls hl
    refine lv_istore_n (lv' := [(2, .int (b2i sk0_1)), (0, .ref a_a_), (1, .ref a_b_)]) hx hb dL_same_12 rfl hl (by decide) rfl (fun ls hl => ?_)
    refine lv_iconst (v := 0) hx hb dL_same_13 (by decide) ?_
    refine lv_istore_n (lv' := [(3, .int 0), (2, .int (b2i sk0_1)), (0, .ref a_a_), (1, .ref a_b_)]) hx hb dL_same_14 rfl hl (by decide) rfl (fun ls hl => ?_)
    have EX15_46 : ∀ (v2_4 : Bool) (H : Heap) (locs : List Loc), (wx_L_same_15_46 Q) v2_4 → va_P (dC, dI) vwCl [(a_a_, .inl (g 0, n_a_, .inl a_)), (a_b_, .inl (g 0, n_b_, .inl b_))] H → va_D A [(a_a_, .inl (g 0, n_a_, .inl a_)), (a_b_, .inl (g 0, n_b_, .inl b_))] → va_S A s.heap H locs → ∀ (ls : Array Slot), lv_has ls 4 [(2, .int (b2i v2_4))] → W p l e (headSpec wqL_same ({ frames := 0, cells := 0, slots := 0, locals := 0 })).room s m ([.ref a_a_, .ref a_b_] : List Value).toArray below meth c H locs 0 0 QM (F0 m 46 ls []) := by
      intro v2_4 H locs hw hP hD hS ls hl
      refine lv_iload_n hx hb dL_same_46 rfl (lv_at hl 0 rfl) ?_
      refine W.widen (k := 0) (n := 0) (by omega) (by omega) ?_
      subst hQM
      exact W.zret (v := (b2i v2_4)) hx hb hr (nar_b2i _) (fun t ht hW => ⟨⟨_, (()), rfl, ⟨v2_4, rfl, hw⟩, ⟨P_at ht hP, hD⟩⟩, hS.F ht⟩) hS.2.2 dL_same_47
    have LOOP15 : ∀ (n15 : Nat) (v3_2 : Int32) (v2_3 : Bool) (H : Heap) (locs : List Loc), wl_L_same_15 n_a_ a_ n_b_ b_ (wx_L_same_15_46 Q) n15 v3_2 v2_3 → va_P (dC, dI) vwCl [(a_a_, .inl (g 0, n_a_, .inl a_)), (a_b_, .inl (g 0, n_b_, .inl b_))] H → va_D A [(a_a_, .inl (g 0, n_a_, .inl a_)), (a_b_, .inl (g 0, n_b_, .inl b_))] → va_S A s.heap H locs → ∀ (ls : Array Slot), lv_has ls 4 [(0, .ref a_a_), (1, .ref a_b_), (2, .int (b2i v2_3)), (3, .int v3_2)] → W p l e (headSpec wqL_same ({ frames := 0, cells := 0, slots := 0, locals := 0 })).room s m ([.ref a_a_, .ref a_b_] : List Value).toArray below meth c H locs 0 0 QM (F0 m 15 ls []) := by
      intro n15
      induction n15 with
      | zero =>
        intro v3_2 v2_3 H locs hw hP hD hS ls hl
        exact False.elim hw
      | succ n15 ih15 =>
        intro v3_2 v2_3 H locs hw hP hD hS ls hl
        rw [wl_L_same_15_s] at hw
        refine lv_iload_n hx hb dL_same_15 rfl (lv_at hl 3 rfl) ?_
        refine lv_aload_n hx hb dL_same_16 rfl (lv_at hl 0 rfl) ?_
        refine va_alen hx hb hK hP 0 0 rfl rfl (v := nI n_a_) rfl dL_same_17 ?_
        refine lv_icmp_ge (tgt := 46) hx hb dL_same_18 (by decide) (fun c_5 => ?_) (fun c_5 => ?_)
        · have hw := hw.1 c_5
          refine W.widen (k := 0) (n := 0) (by omega) (by omega) ?_
          exact EX15_46 v2_3 _ _ hw hP hD hS _ (lv_sub hl [2] rfl)
        · have hw := hw.2 c_5
          refine lv_iload_n hx hb dL_same_21 rfl (lv_at hl 2 rfl) ?_
          refine lv_if_eq (tgt := 46) hx hb dL_same_22 (by decide) (fun c_6 => ?_) (fun c_6 => ?_)
          · have hw := hw.1 (b2i_0 c_6)
            refine W.widen (k := 0) (n := 0) (by omega) (by omega) ?_
            exact EX15_46 v2_3 _ _ hw hP hD hS _ (lv_sub hl [2] rfl)
          · have hw := hw.2 (b2i_1 c_6)
            refine lv_aload_n hx hb dL_same_25 rfl (lv_at hl 0 rfl) ?_
            refine lv_iload_n hx hb dL_same_26 rfl (lv_at hl 3 rfl) ?_
            refine va_iald hx hb hK hP 0 0 rfl rfl hw.1 dL_same_27 ?_
            have hw := hw.2
            refine lv_topi (fun x_7 ex_7 => ?_)
            have hw := hw x_7 ex_7
            refine lv_aload_n hx hb dL_same_28 rfl (lv_at hl 1 rfl) ?_
            refine lv_iload_n hx hb dL_same_29 rfl (lv_at hl 3 rfl) ?_
            refine va_iald hx hb hK hP 1 0 rfl rfl hw.1 dL_same_30 ?_
            have hw := hw.2
            refine lv_topi (fun x_8 ex_8 => ?_)
            have hw := hw x_8 ex_8
            refine lv_icmp_ne (tgt := 38) hx hb dL_same_31 (by decide) (fun c_9 => ?_) (fun c_9 => ?_)
            · have hw := hw.2 c_9
              refine lv_iconst (v := 0) hx hb dL_same_38 (by decide) ?_
              refine lv_istore_n (lv' := [(2, .int 0), (0, .ref a_a_), (1, .ref a_b_), (3, .int v3_2)]) hx hb dL_same_39 rfl hl (by decide) rfl (fun ls hl => ?_)
              obtain ⟨x_10, ex_10⟩ : ∃ y : Int32, y = v3_2 + 1 := ⟨_, rfl⟩
              have hw := hw x_10 ex_10
              refine lv_iinc (v := x_10) (lv' := [(3, .int x_10), (2, .int 0), (0, .ref a_a_), (1, .ref a_b_)]) hx hb dL_same_40 hl (k := 3) rfl (by rw [ex_10]; rfl) (by decide) rfl (fun ls hl => ?_)
              refine lv_goto (tgt := 15) hx hb dL_same_43 (by decide) ?_
              refine W.widen (k := 0) (n := 0) (by omega) (by omega) ?_
              exact ih15 x_10 false _ _ hw hP hD hS _ (lv_sub hl [2, 3, 1, 0] rfl)
            · have hw := hw.1 c_9
              refine lv_iconst (v := 1) hx hb dL_same_34 (by decide) ?_
              refine lv_goto (tgt := 39) hx hb dL_same_35 (by decide) ?_
              refine lv_istore_n (lv' := [(2, .int 1), (0, .ref a_a_), (1, .ref a_b_), (3, .int v3_2)]) hx hb dL_same_39 rfl hl (by decide) rfl (fun ls hl => ?_)
              obtain ⟨x_11, ex_11⟩ : ∃ y : Int32, y = v3_2 + 1 := ⟨_, rfl⟩
              have hw := hw x_11 ex_11
              refine lv_iinc (v := x_11) (lv' := [(3, .int x_11), (2, .int 1), (0, .ref a_a_), (1, .ref a_b_)]) hx hb dL_same_40 hl (k := 3) rfl (by rw [ex_11]; rfl) (by decide) rfl (fun ls hl => ?_)
              refine lv_goto (tgt := 15) hx hb dL_same_43 (by decide) ?_
              refine W.widen (k := 0) (n := 0) (by omega) (by omega) ?_
              exact ih15 x_11 true _ _ hw hP hD hS _ (lv_sub hl [2, 3, 1, 0] rfl)
    obtain ⟨n15, hw⟩ := hw
    refine W.widen (k := 0) (n := 0) (by omega) (by omega) ?_
    exact LOOP15 n15 0 sk0_1 _ _ hw hP hD hS _ (lv_sub hl [2, 3, 1, 0] rfl)
  refine lv_icmp_ne (tgt := 11) hx hb dL_same_4 (by decide) (fun c_12 => ?_) (fun c_12 => ?_)
  · have hw := hw.2 c_12
    refine lv_iconst (v := 0) hx hb dL_same_11 (by decide) ?_
    refine W.widen (k := 0) (n := 0) (by omega) (by omega) ?_
    exact JN12 false _ _ hw hP hD hS _ (lv_sub hl [0, 1] rfl)
  · have hw := hw.1 c_12
    refine lv_iconst (v := 1) hx hb dL_same_7 (by decide) ?_
    refine lv_goto (tgt := 12) hx hb dL_same_8 (by decide) ?_
    refine W.widen (k := 0) (n := 0) (by omega) (by omega) ?_
    exact JN12 true _ _ hw hP hD hS _ (lv_sub hl [0, 1] rfl)
theorem dL_tape_0 : decode cL_tape 0 = .ok (.aload_n 0, 1) := by decide +kernel
theorem dL_tape_1 : decode cL_tape 1 = .ok (.iload_n 1, 1) := by decide +kernel
theorem dL_tape_2 : decode cL_tape 2 = .ok (.invokevirtual 90, 3) := by decide +kernel
theorem dL_tape_5 : decode cL_tape 5 = .ok (.newarray .int, 2) := by decide +kernel
theorem dL_tape_7 : decode cL_tape 7 = .ok (.astore_n 2, 1) := by decide +kernel
theorem dL_tape_8 : decode cL_tape 8 = .ok (.iconst 0, 1) := by decide +kernel
theorem dL_tape_9 : decode cL_tape 9 = .ok (.istore_n 3, 1) := by decide +kernel
theorem dL_tape_31 : decode cL_tape 31 = .ok (.aload_n 2, 1) := by decide +kernel
theorem dL_tape_32 : decode cL_tape 32 = .ok (.areturn, 1) := by decide +kernel
theorem dL_tape_10 : decode cL_tape 10 = .ok (.iload_n 3, 1) := by decide +kernel
theorem dL_tape_11 : decode cL_tape 11 = .ok (.aload_n 2, 1) := by decide +kernel
theorem dL_tape_12 : decode cL_tape 12 = .ok (.arraylength, 1) := by decide +kernel
theorem dL_tape_13 : decode cL_tape 13 = .ok (.if_icmp .ge 18, 3) := by decide +kernel
theorem dL_tape_16 : decode cL_tape 16 = .ok (.aload_n 2, 1) := by decide +kernel
theorem dL_tape_17 : decode cL_tape 17 = .ok (.iload_n 3, 1) := by decide +kernel
theorem dL_tape_18 : decode cL_tape 18 = .ok (.aload_n 0, 1) := by decide +kernel
theorem dL_tape_19 : decode cL_tape 19 = .ok (.iload_n 1, 1) := by decide +kernel
theorem dL_tape_20 : decode cL_tape 20 = .ok (.iload_n 3, 1) := by decide +kernel
theorem dL_tape_21 : decode cL_tape 21 = .ok (.invokevirtual 30, 3) := by decide +kernel
theorem dL_tape_24 : decode cL_tape 24 = .ok (.iastore, 1) := by decide +kernel
theorem dL_tape_25 : decode cL_tape 25 = .ok (.iinc 3 1, 3) := by decide +kernel
theorem dL_tape_28 : decode cL_tape 28 = .ok (.goto (-18), 3) := by decide +kernel

set_option maxHeartbeats 8000000 in
set_option maxRecDepth 100000 in
theorem c_L_tape (l : Launch) (hlf : l.stackTraces = false) (dC : Nat → ClassId) (dI : Nat → Nat → Nat) (g : Nat → ClassId) (tp_p_ hd_p_ : Nat → Nat) (tf_p_ cf_p_ : Nat → Option Nat) (htf_p_ : ∀ j, j < 8 → tf_p_ j = some (tp_p_ j)) (hcf_p_ : ∀ j, j < 8 → cf_p_ j = some (tp_p_ (8 + j))) (a_p_ : Nat → Nat) (t_p_ : Nat) (h_p_ : a_p_ 0 = t_p_) (o_p_ : OS) (tape : Int32) (Q : Nat → (Nat → Int32) → OS → Prop) (hw : wp_L_tape o_p_ tape Q) (sz : Nat) : Met l yL_tape wqL_tape ({ frames := 8, cells := 204, slots := 1418, locals := 126 }) (va_Pc [.ref t_p_, .int tape] (PG (dC, dI) g (offS a_p_ tp_p_ hd_p_ tf_p_ cf_p_ g o_p_) sz)) (va_Qq (fun (r : Option Nat) (u : (Nat → Nat) × OS × Nat × Nat × (Nat → Int32) × Unit) => r = some u.2.2.1 ∧ (Q u.2.2.2.1 u.2.2.2.2.1 u.2.1 ∧ u.1 0 = t_p_)) (fun (u : (Nat → Nat) × OS × Nat × Nat × (Nat → Int32) × Unit) t9 => va_P (dC, dI) vwCl ([(u.2.2.1, .inl (g 0, u.2.2.2.1, .inl u.2.2.2.2.1))] ++ (offS u.1 tp_p_ hd_p_ tf_p_ cf_p_ g u.2.1)) t9.heap ∧ va_D (va_A (offS a_p_ tp_p_ hd_p_ tf_p_ cf_p_ g o_p_) sz) ([(u.2.2.1, .inl (g 0, u.2.2.2.1, .inl u.2.2.2.2.1))] ++ (offS u.1 tp_p_ hd_p_ tf_p_ cf_p_ g u.2.1))) (va_A (offS a_p_ tp_p_ hd_p_ tf_p_ cf_p_ g o_p_) sz)) 204 1418 (va_A (offS a_p_ tp_p_ hd_p_ tf_p_ cf_p_ g o_p_) sz) := by
  refine Met.ofW (cc := cL_tape) (maxL := 4) (ret := (some (.array .int))) (by decide) rfl ?_
  intro p e s m args below meth c s₁ B hml hv
  obtain ⟨rfl, hsz, hP, hK, hD0, hG⟩ := hv
  have hx := B.exec
  have hb := B.bytes
  have hr := B.returns
  have hts := atoms_spec (ws := wqL_tape) B.pre
  have hown : s.vm.findClass RL = some m.cls := findClass_of_methodNamed B.named
  have hlocks := B.notSynchronized
  subst hsz
  have hD := hD0.self (sz := s.heap.size)
  generalize hAe : va_A (offS a_p_ tp_p_ hd_p_ tf_p_ cf_p_ g o_p_) s.heap.size = A at hD hG ⊢
  have hA : ∀ q : Nat, s.heap.size ≤ q → A q := fun q h => by rw [← hAe]; exact Or.inr h
  have hS : va_S A s.heap s.heap [] := va_S.rf
  have hrc : (headSpec wqL_tape ({ frames := 8, cells := 204, slots := 1418, locals := 126 })).room.cells = 204 := rfl
  have hrs : (headSpec wqL_tape ({ frames := 8, cells := 204, slots := 1418, locals := 126 })).room.slots = 1418 := rfl
  have hl := lv_entry ([.ref t_p_, .int tape]) (n := 4) (Nat.le_of_ble_eq_true rfl)
  rw [lg_entry_eq]
  generalize (lg_sl ([.ref t_p_, .int tape]) ++ List.replicate (4 - (lg_sl ([.ref t_p_, .int tape])).length) Slot.unset).toArray = ls at hl ⊢
  have hl : lv_has ls 4 [(0, .ref t_p_), (1, .int tape)] := hl
  unfold wp_L_tape at hw
  have hnaint := hts (Cond.arrayClass .int) (aw_l aw_1_57)
  refine lv_aload_n hx hb dL_tape_0 rfl (lv_at hl 0 rfl) ?_
  refine lv_iload_n hx hb dL_tape_1 rfl (lv_at hl 1 rfl) ?_
  obtain ⟨hPs, hDs⟩ := seg_call (segs := [offS a_p_ tp_p_ hd_p_ tf_p_ cf_p_ g o_p_]) [] [offS a_p_ tp_p_ hd_p_ tf_p_ cf_p_ g o_p_] 1 [0] rfl rfl (by decide) hP hD
  have hPc : va_P (dC, dI) vwCl (offS a_p_ tp_p_ hd_p_ tf_p_ cf_p_ g o_p_) s.heap := P_r hPs
  have hDc : va_D A (offS a_p_ tp_p_ hd_p_ tf_p_ cf_p_ g o_p_) := D_r hDs
  have hFc : ∀ q, va_A (offS a_p_ tp_p_ hd_p_ tf_p_ cf_p_ g o_p_) s.heap.size q → A q := A_all hDc hA hS.1
  refine vx_calli (vx_runV (As := [.int tape]) (rest := []) ⟨hx, hb, hml, hown, hts⟩ (p_length l hlf dC dI g tp_p_ hd_p_ tf_p_ cf_p_ htf_p_ hcf_p_ a_p_ t_p_ h_p_ o_p_ tape (hw := hw) (sz := s.heap.size)) (cwV 1 hts (gqV aw_3_161 aw_3_162 aw_3_163 aw_1_1 aw_3_164) rfl rfl rfl (by decide +kernel) ⟨Nat.le_of_ble_eq_true rfl, Nat.le_of_ble_eq_true rfl⟩) ⟨PG_blind, off_recv h_p_ hK hPc, PG_call hK hG hS hPc hDc hFc⟩ rfl rfl hl.1 rfl (lv_room (Nat.le_of_ble_eq_true rfl)) dL_tape_2 ⟨by rw [hrc]; omega, by rw [hrs]; omega⟩) hS (fun q _ h => hFc q h) hFc (fun q _ h => hFc q h) (fun E ce q9 ux t H1 locs1 ht hvm hp9 hB9 hz hk hS9 hce hcv hcl => ?_) (fun r_1 u_1 t_1 H_1 L_1 ht_1 hvm_1 hw_1 hB_1 hz_1 hk_1 hS => ?_)
  · exact (hB9.1.1).elim
  obtain ⟨ad_2, o_3⟩ := u_1
  obtain ⟨hw, had_2⟩ := hw_1
  rw [ht_1] at hB_1
  obtain ⟨hP1, hD1⟩ := hB_1
  obtain ⟨hP, hD⟩ := join_r hPs hDs hk_1 hFc hP1 hD1
  obtain ⟨hP, hD⟩ := seg_join [] [offS ad_2 tp_p_ hd_p_ tf_p_ cf_p_ g o_3] [offS ad_2 tp_p_ hd_p_ tf_p_ cf_p_ g o_3] 1 [0] rfl rfl (by decide) hP hD
  have hP : va_P (dC, dI) vwCl (offS ad_2 tp_p_ hd_p_ tf_p_ cf_p_ g o_3) H_1 := hP
  have hD : va_D A (offS ad_2 tp_p_ hd_p_ tf_p_ cf_p_ g o_3) := hD
  refine W.widen (k := 1) (n := 6) (by omega) (by omega) ?_
  obtain ⟨n_7, en_7, ln_7, hw⟩ := hw
  refine va_newa (atype := .int) (a0 := (n_7, .inl (fun _ => 0))) hx hb hnaint rfl hK hP hD hS hA (fun _ => rfl) (by rw [en_7]; exact nI_pos (by omega)) (N' := n_7) (by rw [en_7]; exact nI_clamp (by omega)) (show n_7 * 4 ≤ 536870912 by omega) (by rw [hrc]; omega) (by rw [hrs]; omega) dL_tape_5 (fun a_q_4 cA_6 H_5 hK9 hP hD hS => ?_)
  obtain rfl : g 0 = cA_6 := K_one hK9 0 5 rfl rfl
  obtain ⟨hP, hD⟩ := seg_join [offS ad_2 tp_p_ hd_p_ tf_p_ cf_p_ g o_3] [[(a_q_4, .inl (g 0, n_7, .inl (fun _ => 0)))]] [[(a_q_4, .inl (g 0, n_7, .inl (fun _ => 0)))], offS ad_2 tp_p_ hd_p_ tf_p_ cf_p_ g o_3] 2 [1, 0] rfl rfl (by decide) hP hD
  have hP : va_P (dC, dI) vwCl ([(a_q_4, .inl (g 0, n_7, .inl (fun _ => 0)))] ++ (offS ad_2 tp_p_ hd_p_ tf_p_ cf_p_ g o_3)) H_5 := hP
  have hD : va_D A ([(a_q_4, .inl (g 0, n_7, .inl (fun _ => 0)))] ++ (offS ad_2 tp_p_ hd_p_ tf_p_ cf_p_ g o_3)) := hD
  refine W.widen (k := 2) (n := 206) (by omega) (by omega) ?_
  refine lv_astore_n (lv' := [(2, .ref a_q_4), (0, .ref t_p_), (1, .int tape)]) hx hb dL_tape_7 rfl hl (by decide) rfl (fun ls hl => ?_)
  refine lv_iconst (v := 0) hx hb dL_tape_8 (by decide) ?_
  refine lv_istore_n (lv' := [(3, .int 0), (2, .ref a_q_4), (0, .ref t_p_), (1, .int tape)]) hx hb dL_tape_9 rfl hl (by decide) rfl (fun ls hl => ?_)
  refine W_abs (fun QM hQM => ?_)
  have EX10_31 : ∀ (q5_12 : Nat → Int32) (o_13 : OS) (ad_14 : Nat → Nat) (had_14 : ad_14 0 = t_p_) (H : Heap) (locs : List Loc), (wx_L_tape_10_31 Q n_7) q5_12 o_13 → va_P (dC, dI) vwCl ([(a_q_4, .inl (g 0, n_7, .inl q5_12))] ++ (offS ad_14 tp_p_ hd_p_ tf_p_ cf_p_ g o_13)) H → va_D A ([(a_q_4, .inl (g 0, n_7, .inl q5_12))] ++ (offS ad_14 tp_p_ hd_p_ tf_p_ cf_p_ g o_13)) → va_S A s.heap H locs → ∀ (ls : Array Slot), lv_has ls 4 [(2, .ref a_q_4)] → W p l e (headSpec wqL_tape ({ frames := 8, cells := 204, slots := 1418, locals := 126 })).room s m ([.ref t_p_, .int tape] : List Value).toArray below meth c H locs 204 1418 QM (F0 m 31 ls []) := by
    intro q5_12 o_13 ad_14 had_14 H locs hw hP hD hS ls hl
    refine lv_aload_n hx hb dL_tape_31 rfl (lv_at hl 0 rfl) ?_
    refine W.widen (k := 204) (n := 1418) (by omega) (by omega) ?_
    subst hQM
    exact W.aret (v := .ref a_q_4) hx hb hr (Or.inr ⟨_, rfl⟩) (Or.inr ⟨_, rfl⟩) (fun t ht hW => ⟨⟨some a_q_4, (ad_14, o_13, a_q_4, n_7, q5_12, ()), rfl, ⟨rfl, ⟨hw, had_14⟩⟩, ⟨P_at ht hP, hD⟩⟩, hS.F ht⟩) hS.2.2 dL_tape_32
  have LOOP10 : ∀ (n10 : Nat), n10 ≤ 101 → ∀ (v3_8 : Int32) (q5_9 : Nat → Int32) (o_10 : OS) (ad_11 : Nat → Nat) (had_11 : ad_11 0 = t_p_) (H : Heap) (locs : List Loc), wl_L_tape_10 tape n_7 (wx_L_tape_10_31 Q n_7) n10 v3_8 q5_9 o_10 → va_P (dC, dI) vwCl ([(a_q_4, .inl (g 0, n_7, .inl q5_9))] ++ (offS ad_11 tp_p_ hd_p_ tf_p_ cf_p_ g o_10)) H → va_D A ([(a_q_4, .inl (g 0, n_7, .inl q5_9))] ++ (offS ad_11 tp_p_ hd_p_ tf_p_ cf_p_ g o_10)) → va_S A s.heap H locs → ∀ (ls : Array Slot), lv_has ls 4 [(0, .ref t_p_), (1, .int tape), (2, .ref a_q_4), (3, .int v3_8)] → W p l e (headSpec wqL_tape ({ frames := 8, cells := 204, slots := 1418, locals := 126 })).room s m ([.ref t_p_, .int tape] : List Value).toArray below meth c H locs (204 - n10 * 2) (1418 - n10 * 12) QM (F0 m 10 ls []) := by
    intro n10
    induction n10 with
    | zero =>
      intro hle_n10
      intro v3_8 q5_9 o_10 ad_11 had_11 H locs hw hP hD hS ls hl
      exact False.elim hw
    | succ n10 ih10 =>
      intro hle_n10
      have ih10 := ih10 (by omega)
      intro v3_8 q5_9 o_10 ad_11 had_11 H locs hw hP hD hS ls hl
      rw [wl_L_tape_10_s] at hw
      obtain ⟨kb10, hkb10⟩ : ∃ x : Nat, x = 204 - (n10 + 1) * 2 := ⟨_, rfl⟩
      obtain ⟨nb10, hnb10⟩ : ∃ x : Nat, x = 1418 - (n10 + 1) * 12 := ⟨_, rfl⟩
      refine W.widen (k := kb10) (n := nb10) (by omega) (by omega) ?_
      refine lv_iload_n hx hb dL_tape_10 rfl (lv_at hl 3 rfl) ?_
      refine lv_aload_n hx hb dL_tape_11 rfl (lv_at hl 2 rfl) ?_
      refine va_alen hx hb hK hP 0 0 rfl rfl (v := nI n_7) rfl dL_tape_12 ?_
      refine lv_icmp_ge (tgt := 31) hx hb dL_tape_13 (by decide) (fun c_15 => ?_) (fun c_15 => ?_)
      · have hw := hw.1 c_15
        refine W.widen (k := 204) (n := 1418) (by omega) (by omega) ?_
        exact EX10_31 q5_9 o_10 ad_11 had_11 _ _ hw hP hD hS _ (lv_sub hl [2] rfl)
      · have hw := hw.2 c_15
        refine lv_aload_n hx hb dL_tape_16 rfl (lv_at hl 2 rfl) ?_
        refine lv_iload_n hx hb dL_tape_17 rfl (lv_at hl 3 rfl) ?_
        refine lv_aload_n hx hb dL_tape_18 rfl (lv_at hl 0 rfl) ?_
        refine lv_iload_n hx hb dL_tape_19 rfl (lv_at hl 1 rfl) ?_
        refine lv_iload_n hx hb dL_tape_20 rfl (lv_at hl 3 rfl) ?_
        obtain ⟨hPs, hDs⟩ := seg_call (segs := [[(a_q_4, .inl (g 0, n_7, .inl q5_9))], offS ad_11 tp_p_ hd_p_ tf_p_ cf_p_ g o_10]) [[(a_q_4, .inl (g 0, n_7, .inl q5_9))]] [offS ad_11 tp_p_ hd_p_ tf_p_ cf_p_ g o_10] 2 [0, 1] rfl rfl (by decide) hP hD
        have hPc : va_P (dC, dI) vwCl (offS ad_11 tp_p_ hd_p_ tf_p_ cf_p_ g o_10) H := P_r hPs
        have hDc : va_D A (offS ad_11 tp_p_ hd_p_ tf_p_ cf_p_ g o_10) := D_r hDs
        have hFc : ∀ q, va_A (offS ad_11 tp_p_ hd_p_ tf_p_ cf_p_ g o_10) H.size q → A q := A_all hDc hA hS.1
        refine vx_calli (vx_runV (As := [.int tape, .int v3_8]) (rest := [.int v3_8, .ref a_q_4]) ⟨hx, hb, hml, hown, hts⟩ (p_at l hlf dC dI g tp_p_ hd_p_ tf_p_ cf_p_ htf_p_ hcf_p_ ad_11 t_p_ had_11 o_10 tape v3_8 (hw := hw) (sz := H.size)) (cwV 2 hts (gqV aw_3_165 aw_3_166 aw_3_167 aw_1_1 aw_3_168) rfl rfl rfl (by decide +kernel) ⟨Nat.le_of_ble_eq_true rfl, Nat.le_of_ble_eq_true rfl⟩) ⟨PG_blind, off_recv had_11 hK hPc, PG_call hK hG hS hPc hDc hFc⟩ rfl rfl hl.1 rfl (lv_room (Nat.le_of_ble_eq_true rfl)) dL_tape_21 ⟨by rw [hrc]; omega, by rw [hrs]; omega⟩) hS (fun q _ h => hFc q h) hFc (fun q _ h => hFc q h) (fun E ce q9 ux t H1 locs1 ht hvm hp9 hB9 hz hk hS9 hce hcv hcl => ?_) (fun r_16 u_16 t_16 H_16 L_16 ht_16 hvm_16 hw_16 hB_16 hz_16 hk_16 hS => ?_)
        · exact (hB9.1.1).elim
        obtain ⟨ad_17, o_18⟩ := u_16
        obtain ⟨hw, had_17⟩ := hw_16
        rw [ht_16] at hB_16
        obtain ⟨hP1, hD1⟩ := hB_16
        obtain ⟨hP, hD⟩ := join_r hPs hDs hk_16 hFc hP1 hD1
        obtain ⟨hP, hD⟩ := seg_join [[(a_q_4, .inl (g 0, n_7, .inl q5_9))]] [offS ad_17 tp_p_ hd_p_ tf_p_ cf_p_ g o_18] [[(a_q_4, .inl (g 0, n_7, .inl q5_9))], offS ad_17 tp_p_ hd_p_ tf_p_ cf_p_ g o_18] 2 [0, 1] rfl rfl (by decide) hP hD
        have hP : va_P (dC, dI) vwCl ([(a_q_4, .inl (g 0, n_7, .inl q5_9))] ++ (offS ad_17 tp_p_ hd_p_ tf_p_ cf_p_ g o_18)) H_16 := hP
        have hD : va_D A ([(a_q_4, .inl (g 0, n_7, .inl q5_9))] ++ (offS ad_17 tp_p_ hd_p_ tf_p_ cf_p_ g o_18)) := hD
        refine W.widen (k := (kb10 + 2)) (n := (nb10 + 12)) (by omega) (by omega) ?_
        refine va_iast hx hb hK hP hD hS 0 0 rfl rfl hw.1 dL_tape_24 (fun H_19 L_20 hP hD hS => ?_)
        have hw := hw.2
        have hP : va_P (dC, dI) vwCl ([(a_q_4, .inl (g 0, n_7, .inl (upd q5_9 v3_8.toNatClampNeg r_16)))] ++ (offS ad_17 tp_p_ hd_p_ tf_p_ cf_p_ g o_18)) H_19 := hP
        have hD : va_D A ([(a_q_4, .inl (g 0, n_7, .inl (upd q5_9 v3_8.toNatClampNeg r_16)))] ++ (offS ad_17 tp_p_ hd_p_ tf_p_ cf_p_ g o_18)) := hD
        obtain ⟨x_21, ex_21⟩ : ∃ y : Int32, y = v3_8 + 1 := ⟨_, rfl⟩
        have hw := hw x_21 ex_21
        refine lv_iinc (v := x_21) (lv' := [(3, .int x_21), (0, .ref t_p_), (1, .int tape), (2, .ref a_q_4)]) hx hb dL_tape_25 hl (k := 3) rfl (by rw [ex_21]; rfl) (by decide) rfl (fun ls hl => ?_)
        refine lv_goto (tgt := 10) hx hb dL_tape_28 (by decide) ?_
        refine W.widen (k := (204 - n10 * 2)) (n := (1418 - n10 * 12)) (by omega) (by omega) ?_
        exact ih10 x_21 (upd q5_9 v3_8.toNatClampNeg r_16) o_18 ad_17 had_17 _ _ hw hP hD hS _ (lv_sub hl [1, 2, 3, 0] rfl)
  obtain ⟨n10, hle10, hw⟩ := hw
  refine W.widen (k := (204 - n10 * 2)) (n := (1418 - n10 * 12)) (by omega) (by omega) ?_
  exact LOOP10 n10 hle10 0 (fun _ => 0) o_3 ad_2 had_2 _ _ hw hP hD hS _ (lv_sub hl [2, 3, 1, 0] rfl)
theorem dL_lengths_0 : decode cL_lengths 0 = .ok (.aload_n 0, 1) := by decide +kernel
theorem dL_lengths_1 : decode cL_lengths 1 = .ok (.iload_n 1, 1) := by decide +kernel
theorem dL_lengths_2 : decode cL_lengths 2 = .ok (.invokevirtual 114, 3) := by decide +kernel
theorem dL_lengths_5 : decode cL_lengths 5 = .ok (.newarray .int, 2) := by decide +kernel
theorem dL_lengths_7 : decode cL_lengths 7 = .ok (.astore_n 2, 1) := by decide +kernel
theorem dL_lengths_8 : decode cL_lengths 8 = .ok (.iconst 0, 1) := by decide +kernel
theorem dL_lengths_9 : decode cL_lengths 9 = .ok (.istore_n 3, 1) := by decide +kernel
theorem dL_lengths_31 : decode cL_lengths 31 = .ok (.aload_n 2, 1) := by decide +kernel
theorem dL_lengths_32 : decode cL_lengths 32 = .ok (.areturn, 1) := by decide +kernel
theorem dL_lengths_10 : decode cL_lengths 10 = .ok (.iload_n 3, 1) := by decide +kernel
theorem dL_lengths_11 : decode cL_lengths 11 = .ok (.aload_n 2, 1) := by decide +kernel
theorem dL_lengths_12 : decode cL_lengths 12 = .ok (.arraylength, 1) := by decide +kernel
theorem dL_lengths_13 : decode cL_lengths 13 = .ok (.if_icmp .ge 18, 3) := by decide +kernel
theorem dL_lengths_16 : decode cL_lengths 16 = .ok (.aload_n 2, 1) := by decide +kernel
theorem dL_lengths_17 : decode cL_lengths 17 = .ok (.iload_n 3, 1) := by decide +kernel
theorem dL_lengths_18 : decode cL_lengths 18 = .ok (.aload_n 0, 1) := by decide +kernel
theorem dL_lengths_19 : decode cL_lengths 19 = .ok (.iload_n 1, 1) := by decide +kernel
theorem dL_lengths_20 : decode cL_lengths 20 = .ok (.iload_n 3, 1) := by decide +kernel
theorem dL_lengths_21 : decode cL_lengths 21 = .ok (.invokevirtual 117, 3) := by decide +kernel
theorem dL_lengths_24 : decode cL_lengths 24 = .ok (.iastore, 1) := by decide +kernel
theorem dL_lengths_25 : decode cL_lengths 25 = .ok (.iinc 3 1, 3) := by decide +kernel
theorem dL_lengths_28 : decode cL_lengths 28 = .ok (.goto (-18), 3) := by decide +kernel

set_option maxHeartbeats 8000000 in
set_option maxRecDepth 100000 in
theorem c_L_lengths (l : Launch) (hlf : l.stackTraces = false) (dC : Nat → ClassId) (dI : Nat → Nat → Nat) (g : Nat → ClassId) (tp_p_ hd_p_ : Nat → Nat) (tf_p_ cf_p_ : Nat → Option Nat) (htf_p_ : ∀ j, j < 8 → tf_p_ j = some (tp_p_ j)) (hcf_p_ : ∀ j, j < 8 → cf_p_ j = some (tp_p_ (8 + j))) (a_p_ : Nat → Nat) (t_p_ : Nat) (h_p_ : a_p_ 0 = t_p_) (o_p_ : OS) (tape : Int32) (Q : Nat → (Nat → Int32) → OS → Prop) (hw : wp_L_lengths o_p_ tape Q) (sz : Nat) : Met l yL_lengths wqL_lengths ({ frames := 9, cells := 204, slots := 1418, locals := 147 }) (va_Pc [.ref t_p_, .int tape] (PG (dC, dI) g (offS a_p_ tp_p_ hd_p_ tf_p_ cf_p_ g o_p_) sz)) (va_Qq (fun (r : Option Nat) (u : (Nat → Nat) × OS × Nat × Nat × (Nat → Int32) × Unit) => r = some u.2.2.1 ∧ (Q u.2.2.2.1 u.2.2.2.2.1 u.2.1 ∧ u.1 0 = t_p_)) (fun (u : (Nat → Nat) × OS × Nat × Nat × (Nat → Int32) × Unit) t9 => va_P (dC, dI) vwCl ([(u.2.2.1, .inl (g 0, u.2.2.2.1, .inl u.2.2.2.2.1))] ++ (offS u.1 tp_p_ hd_p_ tf_p_ cf_p_ g u.2.1)) t9.heap ∧ va_D (va_A (offS a_p_ tp_p_ hd_p_ tf_p_ cf_p_ g o_p_) sz) ([(u.2.2.1, .inl (g 0, u.2.2.2.1, .inl u.2.2.2.2.1))] ++ (offS u.1 tp_p_ hd_p_ tf_p_ cf_p_ g u.2.1))) (va_A (offS a_p_ tp_p_ hd_p_ tf_p_ cf_p_ g o_p_) sz)) 204 1418 (va_A (offS a_p_ tp_p_ hd_p_ tf_p_ cf_p_ g o_p_) sz) := by
  refine Met.ofW (cc := cL_lengths) (maxL := 4) (ret := (some (.array .int))) (by decide) rfl ?_
  intro p e s m args below meth c s₁ B hml hv
  obtain ⟨rfl, hsz, hP, hK, hD0, hG⟩ := hv
  have hx := B.exec
  have hb := B.bytes
  have hr := B.returns
  have hts := atoms_spec (ws := wqL_lengths) B.pre
  have hown : s.vm.findClass RL = some m.cls := findClass_of_methodNamed B.named
  have hlocks := B.notSynchronized
  subst hsz
  have hD := hD0.self (sz := s.heap.size)
  generalize hAe : va_A (offS a_p_ tp_p_ hd_p_ tf_p_ cf_p_ g o_p_) s.heap.size = A at hD hG ⊢
  have hA : ∀ q : Nat, s.heap.size ≤ q → A q := fun q h => by rw [← hAe]; exact Or.inr h
  have hS : va_S A s.heap s.heap [] := va_S.rf
  have hrc : (headSpec wqL_lengths ({ frames := 9, cells := 204, slots := 1418, locals := 147 })).room.cells = 204 := rfl
  have hrs : (headSpec wqL_lengths ({ frames := 9, cells := 204, slots := 1418, locals := 147 })).room.slots = 1418 := rfl
  have hl := lv_entry ([.ref t_p_, .int tape]) (n := 4) (Nat.le_of_ble_eq_true rfl)
  rw [lg_entry_eq]
  generalize (lg_sl ([.ref t_p_, .int tape]) ++ List.replicate (4 - (lg_sl ([.ref t_p_, .int tape])).length) Slot.unset).toArray = ls at hl ⊢
  have hl : lv_has ls 4 [(0, .ref t_p_), (1, .int tape)] := hl
  unfold wp_L_lengths at hw
  have hnaint := hts (Cond.arrayClass .int) (aw_l aw_1_57)
  refine lv_aload_n hx hb dL_lengths_0 rfl (lv_at hl 0 rfl) ?_
  refine lv_iload_n hx hb dL_lengths_1 rfl (lv_at hl 1 rfl) ?_
  obtain ⟨hPs, hDs⟩ := seg_call (segs := [offS a_p_ tp_p_ hd_p_ tf_p_ cf_p_ g o_p_]) [] [offS a_p_ tp_p_ hd_p_ tf_p_ cf_p_ g o_p_] 1 [0] rfl rfl (by decide) hP hD
  have hPc : va_P (dC, dI) vwCl (offS a_p_ tp_p_ hd_p_ tf_p_ cf_p_ g o_p_) s.heap := P_r hPs
  have hDc : va_D A (offS a_p_ tp_p_ hd_p_ tf_p_ cf_p_ g o_p_) := D_r hDs
  have hFc : ∀ q, va_A (offS a_p_ tp_p_ hd_p_ tf_p_ cf_p_ g o_p_) s.heap.size q → A q := A_all hDc hA hS.1
  refine vx_calli (vx_runV (As := [.int tape]) (rest := []) ⟨hx, hb, hml, hown, hts⟩ (p_runs l hlf dC dI g tp_p_ hd_p_ tf_p_ cf_p_ htf_p_ hcf_p_ a_p_ t_p_ h_p_ o_p_ tape (hw := hw) (sz := s.heap.size)) (cwV 1 hts (gqV aw_3_177 aw_3_178 aw_3_179 aw_1_1 aw_3_180) rfl rfl rfl (by decide +kernel) ⟨Nat.le_of_ble_eq_true rfl, Nat.le_of_ble_eq_true rfl⟩) ⟨PG_blind, off_recv h_p_ hK hPc, PG_call hK hG hS hPc hDc hFc⟩ rfl rfl hl.1 rfl (lv_room (Nat.le_of_ble_eq_true rfl)) dL_lengths_2 ⟨by rw [hrc]; omega, by rw [hrs]; omega⟩) hS (fun q _ h => hFc q h) hFc (fun q _ h => hFc q h) (fun E ce q9 ux t H1 locs1 ht hvm hp9 hB9 hz hk hS9 hce hcv hcl => ?_) (fun r_1 u_1 t_1 H_1 L_1 ht_1 hvm_1 hw_1 hB_1 hz_1 hk_1 hS => ?_)
  · exact (hB9.1.1).elim
  obtain ⟨ad_2, o_3⟩ := u_1
  obtain ⟨hw, had_2⟩ := hw_1
  rw [ht_1] at hB_1
  obtain ⟨hP1, hD1⟩ := hB_1
  obtain ⟨hP, hD⟩ := join_r hPs hDs hk_1 hFc hP1 hD1
  obtain ⟨hP, hD⟩ := seg_join [] [offS ad_2 tp_p_ hd_p_ tf_p_ cf_p_ g o_3] [offS ad_2 tp_p_ hd_p_ tf_p_ cf_p_ g o_3] 1 [0] rfl rfl (by decide) hP hD
  have hP : va_P (dC, dI) vwCl (offS ad_2 tp_p_ hd_p_ tf_p_ cf_p_ g o_3) H_1 := hP
  have hD : va_D A (offS ad_2 tp_p_ hd_p_ tf_p_ cf_p_ g o_3) := hD
  refine W.widen (k := 1) (n := 6) (by omega) (by omega) ?_
  obtain ⟨n_7, en_7, ln_7, hw⟩ := hw
  refine va_newa (atype := .int) (a0 := (n_7, .inl (fun _ => 0))) hx hb hnaint rfl hK hP hD hS hA (fun _ => rfl) (by rw [en_7]; exact nI_pos (by omega)) (N' := n_7) (by rw [en_7]; exact nI_clamp (by omega)) (show n_7 * 4 ≤ 536870912 by omega) (by rw [hrc]; omega) (by rw [hrs]; omega) dL_lengths_5 (fun a_q_4 cA_6 H_5 hK9 hP hD hS => ?_)
  obtain rfl : g 0 = cA_6 := K_one hK9 0 5 rfl rfl
  obtain ⟨hP, hD⟩ := seg_join [offS ad_2 tp_p_ hd_p_ tf_p_ cf_p_ g o_3] [[(a_q_4, .inl (g 0, n_7, .inl (fun _ => 0)))]] [[(a_q_4, .inl (g 0, n_7, .inl (fun _ => 0)))], offS ad_2 tp_p_ hd_p_ tf_p_ cf_p_ g o_3] 2 [1, 0] rfl rfl (by decide) hP hD
  have hP : va_P (dC, dI) vwCl ([(a_q_4, .inl (g 0, n_7, .inl (fun _ => 0)))] ++ (offS ad_2 tp_p_ hd_p_ tf_p_ cf_p_ g o_3)) H_5 := hP
  have hD : va_D A ([(a_q_4, .inl (g 0, n_7, .inl (fun _ => 0)))] ++ (offS ad_2 tp_p_ hd_p_ tf_p_ cf_p_ g o_3)) := hD
  refine W.widen (k := 2) (n := 206) (by omega) (by omega) ?_
  refine lv_astore_n (lv' := [(2, .ref a_q_4), (0, .ref t_p_), (1, .int tape)]) hx hb dL_lengths_7 rfl hl (by decide) rfl (fun ls hl => ?_)
  refine lv_iconst (v := 0) hx hb dL_lengths_8 (by decide) ?_
  refine lv_istore_n (lv' := [(3, .int 0), (2, .ref a_q_4), (0, .ref t_p_), (1, .int tape)]) hx hb dL_lengths_9 rfl hl (by decide) rfl (fun ls hl => ?_)
  refine W_abs (fun QM hQM => ?_)
  have EX10_31 : ∀ (q5_12 : Nat → Int32) (o_13 : OS) (ad_14 : Nat → Nat) (had_14 : ad_14 0 = t_p_) (H : Heap) (locs : List Loc), (wx_L_lengths_10_31 Q n_7) q5_12 o_13 → va_P (dC, dI) vwCl ([(a_q_4, .inl (g 0, n_7, .inl q5_12))] ++ (offS ad_14 tp_p_ hd_p_ tf_p_ cf_p_ g o_13)) H → va_D A ([(a_q_4, .inl (g 0, n_7, .inl q5_12))] ++ (offS ad_14 tp_p_ hd_p_ tf_p_ cf_p_ g o_13)) → va_S A s.heap H locs → ∀ (ls : Array Slot), lv_has ls 4 [(2, .ref a_q_4)] → W p l e (headSpec wqL_lengths ({ frames := 9, cells := 204, slots := 1418, locals := 147 })).room s m ([.ref t_p_, .int tape] : List Value).toArray below meth c H locs 204 1418 QM (F0 m 31 ls []) := by
    intro q5_12 o_13 ad_14 had_14 H locs hw hP hD hS ls hl
    refine lv_aload_n hx hb dL_lengths_31 rfl (lv_at hl 0 rfl) ?_
    refine W.widen (k := 204) (n := 1418) (by omega) (by omega) ?_
    subst hQM
    exact W.aret (v := .ref a_q_4) hx hb hr (Or.inr ⟨_, rfl⟩) (Or.inr ⟨_, rfl⟩) (fun t ht hW => ⟨⟨some a_q_4, (ad_14, o_13, a_q_4, n_7, q5_12, ()), rfl, ⟨rfl, ⟨hw, had_14⟩⟩, ⟨P_at ht hP, hD⟩⟩, hS.F ht⟩) hS.2.2 dL_lengths_32
  have LOOP10 : ∀ (n10 : Nat), n10 ≤ 101 → ∀ (v3_8 : Int32) (q5_9 : Nat → Int32) (o_10 : OS) (ad_11 : Nat → Nat) (had_11 : ad_11 0 = t_p_) (H : Heap) (locs : List Loc), wl_L_lengths_10 tape n_7 (wx_L_lengths_10_31 Q n_7) n10 v3_8 q5_9 o_10 → va_P (dC, dI) vwCl ([(a_q_4, .inl (g 0, n_7, .inl q5_9))] ++ (offS ad_11 tp_p_ hd_p_ tf_p_ cf_p_ g o_10)) H → va_D A ([(a_q_4, .inl (g 0, n_7, .inl q5_9))] ++ (offS ad_11 tp_p_ hd_p_ tf_p_ cf_p_ g o_10)) → va_S A s.heap H locs → ∀ (ls : Array Slot), lv_has ls 4 [(0, .ref t_p_), (1, .int tape), (2, .ref a_q_4), (3, .int v3_8)] → W p l e (headSpec wqL_lengths ({ frames := 9, cells := 204, slots := 1418, locals := 147 })).room s m ([.ref t_p_, .int tape] : List Value).toArray below meth c H locs (204 - n10 * 2) (1418 - n10 * 12) QM (F0 m 10 ls []) := by
    intro n10
    induction n10 with
    | zero =>
      intro hle_n10
      intro v3_8 q5_9 o_10 ad_11 had_11 H locs hw hP hD hS ls hl
      exact False.elim hw
    | succ n10 ih10 =>
      intro hle_n10
      have ih10 := ih10 (by omega)
      intro v3_8 q5_9 o_10 ad_11 had_11 H locs hw hP hD hS ls hl
      rw [wl_L_lengths_10_s] at hw
      obtain ⟨kb10, hkb10⟩ : ∃ x : Nat, x = 204 - (n10 + 1) * 2 := ⟨_, rfl⟩
      obtain ⟨nb10, hnb10⟩ : ∃ x : Nat, x = 1418 - (n10 + 1) * 12 := ⟨_, rfl⟩
      refine W.widen (k := kb10) (n := nb10) (by omega) (by omega) ?_
      refine lv_iload_n hx hb dL_lengths_10 rfl (lv_at hl 3 rfl) ?_
      refine lv_aload_n hx hb dL_lengths_11 rfl (lv_at hl 2 rfl) ?_
      refine va_alen hx hb hK hP 0 0 rfl rfl (v := nI n_7) rfl dL_lengths_12 ?_
      refine lv_icmp_ge (tgt := 31) hx hb dL_lengths_13 (by decide) (fun c_15 => ?_) (fun c_15 => ?_)
      · have hw := hw.1 c_15
        refine W.widen (k := 204) (n := 1418) (by omega) (by omega) ?_
        exact EX10_31 q5_9 o_10 ad_11 had_11 _ _ hw hP hD hS _ (lv_sub hl [2] rfl)
      · have hw := hw.2 c_15
        refine lv_aload_n hx hb dL_lengths_16 rfl (lv_at hl 2 rfl) ?_
        refine lv_iload_n hx hb dL_lengths_17 rfl (lv_at hl 3 rfl) ?_
        refine lv_aload_n hx hb dL_lengths_18 rfl (lv_at hl 0 rfl) ?_
        refine lv_iload_n hx hb dL_lengths_19 rfl (lv_at hl 1 rfl) ?_
        refine lv_iload_n hx hb dL_lengths_20 rfl (lv_at hl 3 rfl) ?_
        obtain ⟨hPs, hDs⟩ := seg_call (segs := [[(a_q_4, .inl (g 0, n_7, .inl q5_9))], offS ad_11 tp_p_ hd_p_ tf_p_ cf_p_ g o_10]) [[(a_q_4, .inl (g 0, n_7, .inl q5_9))]] [offS ad_11 tp_p_ hd_p_ tf_p_ cf_p_ g o_10] 2 [0, 1] rfl rfl (by decide) hP hD
        have hPc : va_P (dC, dI) vwCl (offS ad_11 tp_p_ hd_p_ tf_p_ cf_p_ g o_10) H := P_r hPs
        have hDc : va_D A (offS ad_11 tp_p_ hd_p_ tf_p_ cf_p_ g o_10) := D_r hDs
        have hFc : ∀ q, va_A (offS ad_11 tp_p_ hd_p_ tf_p_ cf_p_ g o_10) H.size q → A q := A_all hDc hA hS.1
        refine vx_calli (vx_runV (As := [.int tape, .int v3_8]) (rest := [.int v3_8, .ref a_q_4]) ⟨hx, hb, hml, hown, hts⟩ (p_runLength l hlf dC dI g tp_p_ hd_p_ tf_p_ cf_p_ htf_p_ hcf_p_ ad_11 t_p_ had_11 o_10 tape v3_8 (hw := hw) (sz := H.size)) (cwV 2 hts (gqV aw_3_234 aw_3_235 aw_3_236 aw_1_1 aw_3_237) rfl rfl rfl (by decide +kernel) ⟨Nat.le_of_ble_eq_true rfl, Nat.le_of_ble_eq_true rfl⟩) ⟨PG_blind, off_recv had_11 hK hPc, PG_call hK hG hS hPc hDc hFc⟩ rfl rfl hl.1 rfl (lv_room (Nat.le_of_ble_eq_true rfl)) dL_lengths_21 ⟨by rw [hrc]; omega, by rw [hrs]; omega⟩) hS (fun q _ h => hFc q h) hFc (fun q _ h => hFc q h) (fun E ce q9 ux t H1 locs1 ht hvm hp9 hB9 hz hk hS9 hce hcv hcl => ?_) (fun r_16 u_16 t_16 H_16 L_16 ht_16 hvm_16 hw_16 hB_16 hz_16 hk_16 hS => ?_)
        · exact (hB9.1.1).elim
        obtain ⟨ad_17, o_18⟩ := u_16
        obtain ⟨hw, had_17⟩ := hw_16
        rw [ht_16] at hB_16
        obtain ⟨hP1, hD1⟩ := hB_16
        obtain ⟨hP, hD⟩ := join_r hPs hDs hk_16 hFc hP1 hD1
        obtain ⟨hP, hD⟩ := seg_join [[(a_q_4, .inl (g 0, n_7, .inl q5_9))]] [offS ad_17 tp_p_ hd_p_ tf_p_ cf_p_ g o_18] [[(a_q_4, .inl (g 0, n_7, .inl q5_9))], offS ad_17 tp_p_ hd_p_ tf_p_ cf_p_ g o_18] 2 [0, 1] rfl rfl (by decide) hP hD
        have hP : va_P (dC, dI) vwCl ([(a_q_4, .inl (g 0, n_7, .inl q5_9))] ++ (offS ad_17 tp_p_ hd_p_ tf_p_ cf_p_ g o_18)) H_16 := hP
        have hD : va_D A ([(a_q_4, .inl (g 0, n_7, .inl q5_9))] ++ (offS ad_17 tp_p_ hd_p_ tf_p_ cf_p_ g o_18)) := hD
        refine W.widen (k := (kb10 + 2)) (n := (nb10 + 12)) (by omega) (by omega) ?_
        refine va_iast hx hb hK hP hD hS 0 0 rfl rfl hw.1 dL_lengths_24 (fun H_19 L_20 hP hD hS => ?_)
        have hw := hw.2
        have hP : va_P (dC, dI) vwCl ([(a_q_4, .inl (g 0, n_7, .inl (upd q5_9 v3_8.toNatClampNeg r_16)))] ++ (offS ad_17 tp_p_ hd_p_ tf_p_ cf_p_ g o_18)) H_19 := hP
        have hD : va_D A ([(a_q_4, .inl (g 0, n_7, .inl (upd q5_9 v3_8.toNatClampNeg r_16)))] ++ (offS ad_17 tp_p_ hd_p_ tf_p_ cf_p_ g o_18)) := hD
        obtain ⟨x_21, ex_21⟩ : ∃ y : Int32, y = v3_8 + 1 := ⟨_, rfl⟩
        have hw := hw x_21 ex_21
        refine lv_iinc (v := x_21) (lv' := [(3, .int x_21), (0, .ref t_p_), (1, .int tape), (2, .ref a_q_4)]) hx hb dL_lengths_25 hl (k := 3) rfl (by rw [ex_21]; rfl) (by decide) rfl (fun ls hl => ?_)
        refine lv_goto (tgt := 10) hx hb dL_lengths_28 (by decide) ?_
        refine W.widen (k := (204 - n10 * 2)) (n := (1418 - n10 * 12)) (by omega) (by omega) ?_
        exact ih10 x_21 (upd q5_9 v3_8.toNatClampNeg r_16) o_18 ad_17 had_17 _ _ hw hP hD hS _ (lv_sub hl [1, 2, 3, 0] rfl)
  obtain ⟨n10, hle10, hw⟩ := hw
  refine W.widen (k := (204 - n10 * 2)) (n := (1418 - n10 * 12)) (by omega) (by omega) ?_
  exact LOOP10 n10 hle10 0 (fun _ => 0) o_3 ad_2 had_2 _ _ hw hP hD hS _ (lv_sub hl [2, 3, 1, 0] rfl)
theorem dL_before_0 : decode cL_before 0 = .ok (.aload_n 0, 1) := by decide +kernel
theorem dL_before_1 : decode cL_before 1 = .ok (.iload_n 1, 1) := by decide +kernel
theorem dL_before_2 : decode cL_before 2 = .ok (.invokevirtual 93, 3) := by decide +kernel
theorem dL_before_5 : decode cL_before 5 = .ok (.istore 4, 2) := by decide +kernel
theorem dL_before_7 : decode cL_before 7 = .ok (.aload_n 0, 1) := by decide +kernel
theorem dL_before_8 : decode cL_before 8 = .ok (.iload_n 2, 1) := by decide +kernel
theorem dL_before_9 : decode cL_before 9 = .ok (.invokevirtual 93, 3) := by decide +kernel
theorem dL_before_12 : decode cL_before 12 = .ok (.istore 5, 2) := by decide +kernel
theorem dL_before_14 : decode cL_before 14 = .ok (.iload 4, 2) := by decide +kernel
theorem dL_before_16 : decode cL_before 16 = .ok (.iload 5, 2) := by decide +kernel
theorem dL_before_18 : decode cL_before 18 = .ok (.if_icmp .eq 35, 3) := by decide +kernel
theorem dL_before_53 : decode cL_before 53 = .ok (.iload_n 1, 1) := by decide +kernel
theorem dL_before_54 : decode cL_before 54 = .ok (.iload_n 2, 1) := by decide +kernel
theorem dL_before_55 : decode cL_before 55 = .ok (.if_icmp .ge 7, 3) := by decide +kernel
theorem dL_before_62 : decode cL_before 62 = .ok (.iconst 0, 1) := by decide +kernel
theorem dL_before_63 : decode cL_before 63 = .ok (.ireturn, 1) := by decide +kernel
theorem dL_before_58 : decode cL_before 58 = .ok (.iconst 1, 1) := by decide +kernel
theorem dL_before_59 : decode cL_before 59 = .ok (.goto 4, 3) := by decide +kernel
theorem dL_before_21 : decode cL_before 21 = .ok (.iload 4, 2) := by decide +kernel
theorem dL_before_23 : decode cL_before 23 = .ok (.iload 5, 2) := by decide +kernel
theorem dL_before_33 : decode cL_before 33 = .ok (.iload_n 3, 1) := by decide +kernel
theorem dL_before_42 : decode cL_before 42 = .ok (.if_icmp .ne 7, 3) := by decide +kernel
theorem dL_before_49 : decode cL_before 49 = .ok (.iconst 0, 1) := by decide +kernel
theorem dL_before_50 : decode cL_before 50 = .ok (.goto 13, 3) := by decide +kernel
theorem dL_before_45 : decode cL_before 45 = .ok (.iconst 1, 1) := by decide +kernel
theorem dL_before_46 : decode cL_before 46 = .ok (.goto 17, 3) := by decide +kernel
theorem dL_before_34 : decode cL_before 34 = .ok (.ifCond .ne 7, 3) := by decide +kernel
theorem dL_before_41 : decode cL_before 41 = .ok (.iconst 0, 1) := by decide +kernel
theorem dL_before_37 : decode cL_before 37 = .ok (.iconst 1, 1) := by decide +kernel
theorem dL_before_38 : decode cL_before 38 = .ok (.goto 4, 3) := by decide +kernel
theorem dL_before_25 : decode cL_before 25 = .ok (.if_icmp .ge 7, 3) := by decide +kernel
theorem dL_before_32 : decode cL_before 32 = .ok (.iconst 0, 1) := by decide +kernel
theorem dL_before_28 : decode cL_before 28 = .ok (.iconst 1, 1) := by decide +kernel
theorem dL_before_29 : decode cL_before 29 = .ok (.goto 4, 3) := by decide +kernel

set_option maxHeartbeats 8000000 in
set_option maxRecDepth 100000 in
theorem c_L_before (l : Launch) (hlf : l.stackTraces = false) (dC : Nat → ClassId) (dI : Nat → Nat → Nat) (g : Nat → ClassId) (tp_p_ hd_p_ : Nat → Nat) (tf_p_ cf_p_ : Nat → Option Nat) (htf_p_ : ∀ j, j < 8 → tf_p_ j = some (tp_p_ j)) (hcf_p_ : ∀ j, j < 8 → cf_p_ j = some (tp_p_ (8 + j))) (a_p_ : Nat → Nat) (t_p_ : Nat) (h_p_ : a_p_ 0 = t_p_) (o_p_ : OS) (one : Int32) (other : Int32) (order : Int32) (Q : Bool → OS → Prop) (hw : wp_L_before o_p_ one other order Q) (sz : Nat) : Met l yL_before wqL_before ({ frames := 8, cells := 2, slots := 12, locals := 124 }) (va_Pc [.ref t_p_, .int one, .int other, .int order] (PG (dC, dI) g (offS a_p_ tp_p_ hd_p_ tf_p_ cf_p_ g o_p_) sz)) (va_Qi (fun (r : Int32) (u : (Nat → Nat) × OS × Unit) => ∃ b : Bool, r = b2i b ∧ (Q b u.2.1 ∧ u.1 0 = t_p_)) (fun (u : (Nat → Nat) × OS × Unit) t9 => va_P (dC, dI) vwCl (offS u.1 tp_p_ hd_p_ tf_p_ cf_p_ g u.2.1) t9.heap ∧ va_D (va_A (offS a_p_ tp_p_ hd_p_ tf_p_ cf_p_ g o_p_) sz) (offS u.1 tp_p_ hd_p_ tf_p_ cf_p_ g u.2.1)) (va_A (offS a_p_ tp_p_ hd_p_ tf_p_ cf_p_ g o_p_) sz)) 2 12 (va_A (offS a_p_ tp_p_ hd_p_ tf_p_ cf_p_ g o_p_) sz) := by
  refine Met.ofW (cc := cL_before) (maxL := 6) (ret := (some .boolean)) (by decide) rfl ?_
  intro p e s m args below meth c s₁ B hml hv
  obtain ⟨rfl, hsz, hP, hK, hD0, hG⟩ := hv
  have hx := B.exec
  have hb := B.bytes
  have hr := B.returns
  have hts := atoms_spec (ws := wqL_before) B.pre
  have hown : s.vm.findClass RL = some m.cls := findClass_of_methodNamed B.named
  have hlocks := B.notSynchronized
  subst hsz
  have hD := hD0.self (sz := s.heap.size)
  generalize hAe : va_A (offS a_p_ tp_p_ hd_p_ tf_p_ cf_p_ g o_p_) s.heap.size = A at hD hG ⊢
  have hA : ∀ q : Nat, s.heap.size ≤ q → A q := fun q h => by rw [← hAe]; exact Or.inr h
  have hS : va_S A s.heap s.heap [] := va_S.rf
  have hrc : (headSpec wqL_before ({ frames := 8, cells := 2, slots := 12, locals := 124 })).room.cells = 2 := rfl
  have hrs : (headSpec wqL_before ({ frames := 8, cells := 2, slots := 12, locals := 124 })).room.slots = 12 := rfl
  have hl := lv_entry ([.ref t_p_, .int one, .int other, .int order]) (n := 6) (Nat.le_of_ble_eq_true rfl)
  rw [lg_entry_eq]
  generalize (lg_sl ([.ref t_p_, .int one, .int other, .int order]) ++ List.replicate (6 - (lg_sl ([.ref t_p_, .int one, .int other, .int order])).length) Slot.unset).toArray = ls at hl ⊢
  have hl : lv_has ls 6 [(0, .ref t_p_), (1, .int one), (2, .int other), (3, .int order)] := hl
  unfold wp_L_before at hw
  refine lv_aload_n hx hb dL_before_0 rfl (lv_at hl 0 rfl) ?_
  refine lv_iload_n hx hb dL_before_1 rfl (lv_at hl 1 rfl) ?_
  obtain ⟨hPs, hDs⟩ := seg_call (segs := [offS a_p_ tp_p_ hd_p_ tf_p_ cf_p_ g o_p_]) [] [offS a_p_ tp_p_ hd_p_ tf_p_ cf_p_ g o_p_] 1 [0] rfl rfl (by decide) hP hD
  have hPc : va_P (dC, dI) vwCl (offS a_p_ tp_p_ hd_p_ tf_p_ cf_p_ g o_p_) s.heap := P_r hPs
  have hDc : va_D A (offS a_p_ tp_p_ hd_p_ tf_p_ cf_p_ g o_p_) := D_r hDs
  have hFc : ∀ q, va_A (offS a_p_ tp_p_ hd_p_ tf_p_ cf_p_ g o_p_) s.heap.size q → A q := A_all hDc hA hS.1
  refine vx_calli (vx_runV (As := [.int one]) (rest := []) ⟨hx, hb, hml, hown, hts⟩ (p_key l hlf dC dI g tp_p_ hd_p_ tf_p_ cf_p_ htf_p_ hcf_p_ a_p_ t_p_ h_p_ o_p_ one (hw := hw) (sz := s.heap.size)) (cwV 1 hts (gqV aw_4_21 aw_4_22 aw_4_23 aw_1_1 aw_4_24) rfl rfl rfl (by decide +kernel) ⟨Nat.le_of_ble_eq_true rfl, Nat.le_of_ble_eq_true rfl⟩) ⟨PG_blind, off_recv h_p_ hK hPc, PG_call hK hG hS hPc hDc hFc⟩ rfl rfl hl.1 rfl (lv_room (Nat.le_of_ble_eq_true rfl)) dL_before_2 ⟨by rw [hrc]; omega, by rw [hrs]; omega⟩) hS (fun q _ h => hFc q h) hFc (fun q _ h => hFc q h) (fun E ce q9 ux t H1 locs1 ht hvm hp9 hB9 hz hk hS9 hce hcv hcl => ?_) (fun r_1 u_1 t_1 H_1 L_1 ht_1 hvm_1 hw_1 hB_1 hz_1 hk_1 hS => ?_)
  · exact (hB9.1.1).elim
  obtain ⟨ad_2, o_3⟩ := u_1
  obtain ⟨hw, had_2⟩ := hw_1
  rw [ht_1] at hB_1
  obtain ⟨hP1, hD1⟩ := hB_1
  obtain ⟨hP, hD⟩ := join_r hPs hDs hk_1 hFc hP1 hD1
  obtain ⟨hP, hD⟩ := seg_join [] [offS ad_2 tp_p_ hd_p_ tf_p_ cf_p_ g o_3] [offS ad_2 tp_p_ hd_p_ tf_p_ cf_p_ g o_3] 1 [0] rfl rfl (by decide) hP hD
  have hP : va_P (dC, dI) vwCl (offS ad_2 tp_p_ hd_p_ tf_p_ cf_p_ g o_3) H_1 := hP
  have hD : va_D A (offS ad_2 tp_p_ hd_p_ tf_p_ cf_p_ g o_3) := hD
  refine W.widen (k := 1) (n := 6) (by omega) (by omega) ?_
  refine lv_istore (lv' := [(4, .int r_1), (0, .ref t_p_), (1, .int one), (2, .int other), (3, .int order)]) hx hb dL_before_5 hl (by decide) rfl (fun ls hl => ?_)
  refine lv_aload_n hx hb dL_before_7 rfl (lv_at hl 1 rfl) ?_
  refine lv_iload_n hx hb dL_before_8 rfl (lv_at hl 3 rfl) ?_
  obtain ⟨hPs, hDs⟩ := seg_call (segs := [offS ad_2 tp_p_ hd_p_ tf_p_ cf_p_ g o_3]) [] [offS ad_2 tp_p_ hd_p_ tf_p_ cf_p_ g o_3] 1 [0] rfl rfl (by decide) hP hD
  have hPc : va_P (dC, dI) vwCl (offS ad_2 tp_p_ hd_p_ tf_p_ cf_p_ g o_3) H_1 := P_r hPs
  have hDc : va_D A (offS ad_2 tp_p_ hd_p_ tf_p_ cf_p_ g o_3) := D_r hDs
  have hFc : ∀ q, va_A (offS ad_2 tp_p_ hd_p_ tf_p_ cf_p_ g o_3) H_1.size q → A q := A_all hDc hA hS.1
  refine vx_calli (vx_runV (As := [.int other]) (rest := []) ⟨hx, hb, hml, hown, hts⟩ (p_key l hlf dC dI g tp_p_ hd_p_ tf_p_ cf_p_ htf_p_ hcf_p_ ad_2 t_p_ had_2 o_3 other (hw := hw) (sz := H_1.size)) (cwV 1 hts (gqV aw_4_21 aw_4_22 aw_4_23 aw_1_1 aw_4_24) rfl rfl rfl (by decide +kernel) ⟨Nat.le_of_ble_eq_true rfl, Nat.le_of_ble_eq_true rfl⟩) ⟨PG_blind, off_recv had_2 hK hPc, PG_call hK hG hS hPc hDc hFc⟩ rfl rfl hl.1 rfl (lv_room (Nat.le_of_ble_eq_true rfl)) dL_before_9 ⟨by rw [hrc]; omega, by rw [hrs]; omega⟩) hS (fun q _ h => hFc q h) hFc (fun q _ h => hFc q h) (fun E ce q9 ux t H1 locs1 ht hvm hp9 hB9 hz hk hS9 hce hcv hcl => ?_) (fun r_4 u_4 t_4 H_4 L_4 ht_4 hvm_4 hw_4 hB_4 hz_4 hk_4 hS => ?_)
  · exact (hB9.1.1).elim
  obtain ⟨ad_5, o_6⟩ := u_4
  obtain ⟨hw, had_5⟩ := hw_4
  rw [ht_4] at hB_4
  obtain ⟨hP1, hD1⟩ := hB_4
  obtain ⟨hP, hD⟩ := join_r hPs hDs hk_4 hFc hP1 hD1
  obtain ⟨hP, hD⟩ := seg_join [] [offS ad_5 tp_p_ hd_p_ tf_p_ cf_p_ g o_6] [offS ad_5 tp_p_ hd_p_ tf_p_ cf_p_ g o_6] 1 [0] rfl rfl (by decide) hP hD
  have hP : va_P (dC, dI) vwCl (offS ad_5 tp_p_ hd_p_ tf_p_ cf_p_ g o_6) H_4 := hP
  have hD : va_D A (offS ad_5 tp_p_ hd_p_ tf_p_ cf_p_ g o_6) := hD
  refine W.widen (k := 2) (n := 12) (by omega) (by omega) ?_
  refine lv_istore (lv' := [(5, .int r_4), (4, .int r_1), (0, .ref t_p_), (1, .int one), (2, .int other), (3, .int order)]) hx hb dL_before_12 hl (by decide) rfl (fun ls hl => ?_)
  refine lv_iload hx hb dL_before_14 (lv_at hl 1 rfl) ?_
  refine lv_iload hx hb dL_before_16 (lv_at hl 0 rfl) ?_
  refine lv_icmp_eq (tgt := 53) hx hb dL_before_18 (by decide) (fun c_7 => ?_) (fun c_7 => ?_)
  · have hw := hw.1 c_7
    refine lv_iload_n hx hb dL_before_53 rfl (lv_at hl 3 rfl) ?_
    refine lv_iload_n hx hb dL_before_54 rfl (lv_at hl 4 rfl) ?_
    refine lv_icmp_ge (tgt := 62) hx hb dL_before_55 (by decide) (fun c_8 => ?_) (fun c_8 => ?_)
    · have hw := hw.1 c_8
      refine lv_iconst (v := 0) hx hb dL_before_62 (by decide) ?_
      refine W.widen (k := 2) (n := 12) (by omega) (by omega) ?_
      exact W.zret (v := 0) hx hb hr rfl (fun t ht hW => ⟨⟨_, (ad_5, o_6, ()), rfl, ⟨false, rfl, ⟨hw, had_5⟩⟩, ⟨P_at ht hP, hD⟩⟩, hS.F ht⟩) hS.2.2 dL_before_63
    · have hw := hw.2 c_8
      refine lv_iconst (v := 1) hx hb dL_before_58 (by decide) ?_
      refine lv_goto (tgt := 63) hx hb dL_before_59 (by decide) ?_
      refine W.widen (k := 2) (n := 12) (by omega) (by omega) ?_
      exact W.zret (v := 1) hx hb hr rfl (fun t ht hW => ⟨⟨_, (ad_5, o_6, ()), rfl, ⟨true, rfl, ⟨hw, had_5⟩⟩, ⟨P_at ht hP, hD⟩⟩, hS.F ht⟩) hS.2.2 dL_before_63
  · have hw := hw.2 c_7
    refine lv_iload hx hb dL_before_21 (lv_at hl 1 rfl) ?_
    refine lv_iload hx hb dL_before_23 (lv_at hl 0 rfl) ?_
    refine W_abs (fun QM hQM => ?_)
    have JN33 : ∀ (sk0_9 : Bool) (H : Heap) (locs : List Loc), (wj_L_before_33 order Q o_6) sk0_9 → va_P (dC, dI) vwCl (offS ad_5 tp_p_ hd_p_ tf_p_ cf_p_ g o_6) H → va_D A (offS ad_5 tp_p_ hd_p_ tf_p_ cf_p_ g o_6) → va_S A s.heap H locs → ∀ (ls : Array Slot), lv_has ls 6 [(3, .int order)] → W p l e (headSpec wqL_before ({ frames := 8, cells := 2, slots := 12, locals := 124 })).room s m ([.ref t_p_, .int one, .int other, .int order] : List Value).toArray below meth c H locs 2 12 QM (F0 m 33 ls [.int (b2i sk0_9)]) := by
      intro sk0_9 H locs hw hP hD hS ls hl
      refine lv_iload_n hx hb dL_before_33 rfl (lv_at hl 0 rfl) ?_
      have JN42 : ∀ (sk0_10 : Bool) (H : Heap) (locs : List Loc), (wj_L_before_42 Q o_6 sk0_9) sk0_10 → va_P (dC, dI) vwCl (offS ad_5 tp_p_ hd_p_ tf_p_ cf_p_ g o_6) H → va_D A (offS ad_5 tp_p_ hd_p_ tf_p_ cf_p_ g o_6) → va_S A s.heap H locs → ∀ (ls : Array Slot), lv_has ls 6 [] → W p l e (headSpec wqL_before ({ frames := 8, cells := 2, slots := 12, locals := 124 })).room s m ([.ref t_p_, .int one, .int other, .int order] : List Value).toArray below meth c H locs 2 12 QM (F0 m 42 ls [.int (b2i sk0_10), .int (b2i sk0_9)]) := by
        intro sk0_10 H locs hw hP hD hS ls hl
        refine lv_icmp_ne (tgt := 49) hx hb dL_before_42 (by decide) (fun c_11 => ?_) (fun c_11 => ?_)
        · have hw := hw.2 c_11
          refine lv_iconst (v := 0) hx hb dL_before_49 (by decide) ?_
          refine lv_goto (tgt := 63) hx hb dL_before_50 (by decide) ?_
          refine W.widen (k := 2) (n := 12) (by omega) (by omega) ?_
          subst hQM
          exact W.zret (v := 0) hx hb hr rfl (fun t ht hW => ⟨⟨_, (ad_5, o_6, ()), rfl, ⟨false, rfl, ⟨hw, had_5⟩⟩, ⟨P_at ht hP, hD⟩⟩, hS.F ht⟩) hS.2.2 dL_before_63
        · have hw := hw.1 c_11
          refine lv_iconst (v := 1) hx hb dL_before_45 (by decide) ?_
          refine lv_goto (tgt := 63) hx hb dL_before_46 (by decide) ?_
          refine W.widen (k := 2) (n := 12) (by omega) (by omega) ?_
          subst hQM
          exact W.zret (v := 1) hx hb hr rfl (fun t ht hW => ⟨⟨_, (ad_5, o_6, ()), rfl, ⟨true, rfl, ⟨hw, had_5⟩⟩, ⟨P_at ht hP, hD⟩⟩, hS.F ht⟩) hS.2.2 dL_before_63
      refine lv_if_ne (tgt := 41) hx hb dL_before_34 (by decide) (fun c_12 => ?_) (fun c_12 => ?_)
      · have hw := hw.2 c_12
        refine lv_iconst (v := 0) hx hb dL_before_41 (by decide) ?_
        refine W.widen (k := 2) (n := 12) (by omega) (by omega) ?_
        exact JN42 false _ _ hw hP hD hS _ (lv_sub hl [] rfl)
      · have hw := hw.1 c_12
        refine lv_iconst (v := 1) hx hb dL_before_37 (by decide) ?_
        refine lv_goto (tgt := 42) hx hb dL_before_38 (by decide) ?_
        refine W.widen (k := 2) (n := 12) (by omega) (by omega) ?_
        exact JN42 true _ _ hw hP hD hS _ (lv_sub hl [] rfl)
    refine lv_icmp_ge (tgt := 32) hx hb dL_before_25 (by decide) (fun c_13 => ?_) (fun c_13 => ?_)
    · have hw := hw.1 c_13
      refine lv_iconst (v := 0) hx hb dL_before_32 (by decide) ?_
      refine W.widen (k := 2) (n := 12) (by omega) (by omega) ?_
      exact JN33 false _ _ hw hP hD hS _ (lv_sub hl [5] rfl)
    · have hw := hw.2 c_13
      refine lv_iconst (v := 1) hx hb dL_before_28 (by decide) ?_
      refine lv_goto (tgt := 33) hx hb dL_before_29 (by decide) ?_
      refine W.widen (k := 2) (n := 12) (by omega) (by omega) ?_
      exact JN33 true _ _ hw hP hD hS _ (lv_sub hl [5] rfl)
theorem dL_sorted_0 : decode cL_sorted 0 = .ok (.aload_n 1, 1) := by decide +kernel
theorem dL_sorted_1 : decode cL_sorted 1 = .ok (.arraylength, 1) := by decide +kernel
theorem dL_sorted_2 : decode cL_sorted 2 = .ok (.newarray .int, 2) := by decide +kernel
theorem dL_sorted_4 : decode cL_sorted 4 = .ok (.astore_n 3, 1) := by decide +kernel
theorem dL_sorted_5 : decode cL_sorted 5 = .ok (.iconst 0, 1) := by decide +kernel
theorem dL_sorted_6 : decode cL_sorted 6 = .ok (.istore 4, 2) := by decide +kernel
theorem dL_sorted_72 : decode cL_sorted 72 = .ok (.aload_n 3, 1) := by decide +kernel
theorem dL_sorted_73 : decode cL_sorted 73 = .ok (.areturn, 1) := by decide +kernel
theorem dL_sorted_8 : decode cL_sorted 8 = .ok (.iload 4, 2) := by decide +kernel
theorem dL_sorted_10 : decode cL_sorted 10 = .ok (.aload_n 1, 1) := by decide +kernel
theorem dL_sorted_11 : decode cL_sorted 11 = .ok (.arraylength, 1) := by decide +kernel
theorem dL_sorted_12 : decode cL_sorted 12 = .ok (.if_icmp .ge 60, 3) := by decide +kernel
theorem dL_sorted_15 : decode cL_sorted 15 = .ok (.iload 4, 2) := by decide +kernel
theorem dL_sorted_17 : decode cL_sorted 17 = .ok (.istore 5, 2) := by decide +kernel
theorem dL_sorted_58 : decode cL_sorted 58 = .ok (.aload_n 3, 1) := by decide +kernel
theorem dL_sorted_59 : decode cL_sorted 59 = .ok (.iload 5, 2) := by decide +kernel
theorem dL_sorted_61 : decode cL_sorted 61 = .ok (.aload_n 1, 1) := by decide +kernel
theorem dL_sorted_62 : decode cL_sorted 62 = .ok (.iload 4, 2) := by decide +kernel
theorem dL_sorted_64 : decode cL_sorted 64 = .ok (.iaload, 1) := by decide +kernel
theorem dL_sorted_65 : decode cL_sorted 65 = .ok (.iastore, 1) := by decide +kernel
theorem dL_sorted_66 : decode cL_sorted 66 = .ok (.iinc 4 1, 3) := by decide +kernel
theorem dL_sorted_69 : decode cL_sorted 69 = .ok (.goto (-61), 3) := by decide +kernel
theorem dL_sorted_19 : decode cL_sorted 19 = .ok (.iload 5, 2) := by decide +kernel
theorem dL_sorted_21 : decode cL_sorted 21 = .ok (.ifCond .le 37, 3) := by decide +kernel
theorem dL_sorted_24 : decode cL_sorted 24 = .ok (.aload_n 0, 1) := by decide +kernel
theorem dL_sorted_25 : decode cL_sorted 25 = .ok (.aload_n 1, 1) := by decide +kernel
theorem dL_sorted_26 : decode cL_sorted 26 = .ok (.iload 4, 2) := by decide +kernel
theorem dL_sorted_28 : decode cL_sorted 28 = .ok (.iaload, 1) := by decide +kernel
theorem dL_sorted_29 : decode cL_sorted 29 = .ok (.aload_n 3, 1) := by decide +kernel
theorem dL_sorted_30 : decode cL_sorted 30 = .ok (.iload 5, 2) := by decide +kernel
theorem dL_sorted_32 : decode cL_sorted 32 = .ok (.iconst 1, 1) := by decide +kernel
theorem dL_sorted_33 : decode cL_sorted 33 = .ok (.isub, 1) := by decide +kernel
theorem dL_sorted_34 : decode cL_sorted 34 = .ok (.iaload, 1) := by decide +kernel
theorem dL_sorted_35 : decode cL_sorted 35 = .ok (.iload_n 2, 1) := by decide +kernel
theorem dL_sorted_36 : decode cL_sorted 36 = .ok (.invokestatic 96, 3) := by decide +kernel
theorem dL_sorted_39 : decode cL_sorted 39 = .ok (.ifCond .eq 19, 3) := by decide +kernel
theorem dL_sorted_42 : decode cL_sorted 42 = .ok (.aload_n 3, 1) := by decide +kernel
theorem dL_sorted_43 : decode cL_sorted 43 = .ok (.iload 5, 2) := by decide +kernel
theorem dL_sorted_45 : decode cL_sorted 45 = .ok (.aload_n 3, 1) := by decide +kernel
theorem dL_sorted_46 : decode cL_sorted 46 = .ok (.iload 5, 2) := by decide +kernel
theorem dL_sorted_48 : decode cL_sorted 48 = .ok (.iconst 1, 1) := by decide +kernel
theorem dL_sorted_49 : decode cL_sorted 49 = .ok (.isub, 1) := by decide +kernel
theorem dL_sorted_50 : decode cL_sorted 50 = .ok (.iaload, 1) := by decide +kernel
theorem dL_sorted_51 : decode cL_sorted 51 = .ok (.iastore, 1) := by decide +kernel
theorem dL_sorted_52 : decode cL_sorted 52 = .ok (.iinc 5 (-1), 3) := by decide +kernel
theorem dL_sorted_55 : decode cL_sorted 55 = .ok (.goto (-36), 3) := by decide +kernel

set_option maxHeartbeats 8000000 in
set_option maxRecDepth 100000 in
theorem c_L_sorted_s (l : Launch) (hlf : l.stackTraces = false) (dC : Nat → ClassId) (dI : Nat → Nat → Nat) (g : Nat → ClassId) (tp_p_ hd_p_ : Nat → Nat) (tf_p_ cf_p_ : Nat → Option Nat) (htf_p_ : ∀ j, j < 8 → tf_p_ j = some (tp_p_ j)) (hcf_p_ : ∀ j, j < 8 → cf_p_ j = some (tp_p_ (8 + j))) (a_p_ : Nat → Nat) (t_p_ : Nat) (h_p_ : a_p_ 0 = t_p_) (o_p_ : OS) (a_all n_all : Nat) (all : Nat → Int32) (order : Int32) (Q : Nat → (Nat → Int32) → OS → Prop) (hw : wp_L_sorted_s o_p_ n_all all order Q) (sz : Nat) : Met l yL_sorted wqL_sorted ({ frames := 9, cells := 3529, slots := 21368, locals := 149 }) (va_Pc [.ref t_p_, .ref a_all, .int order] (PG (dC, dI) g ([(a_all, .inl (g 0, n_all, .inl all))] ++ (offS a_p_ tp_p_ hd_p_ tf_p_ cf_p_ g o_p_)) sz)) (va_Qq (fun (r : Option Nat) (u : (Nat → Nat) × OS × Nat × Nat × (Nat → Int32) × Unit) => r = some u.2.2.1 ∧ (Q u.2.2.2.1 u.2.2.2.2.1 u.2.1 ∧ u.1 0 = t_p_)) (fun (u : (Nat → Nat) × OS × Nat × Nat × (Nat → Int32) × Unit) t9 => va_P (dC, dI) vwCl ([(a_all, .inl (g 0, n_all, .inl all)), (u.2.2.1, .inl (g 0, u.2.2.2.1, .inl u.2.2.2.2.1))] ++ (offS u.1 tp_p_ hd_p_ tf_p_ cf_p_ g u.2.1)) t9.heap ∧ va_D (va_A ([(a_all, .inl (g 0, n_all, .inl all))] ++ (offS a_p_ tp_p_ hd_p_ tf_p_ cf_p_ g o_p_)) sz) ([(a_all, .inl (g 0, n_all, .inl all)), (u.2.2.1, .inl (g 0, u.2.2.2.1, .inl u.2.2.2.2.1))] ++ (offS u.1 tp_p_ hd_p_ tf_p_ cf_p_ g u.2.1))) (va_A ([(a_all, .inl (g 0, n_all, .inl all))] ++ (offS a_p_ tp_p_ hd_p_ tf_p_ cf_p_ g o_p_)) sz)) 3529 21368 (va_A ([(a_all, .inl (g 0, n_all, .inl all))] ++ (offS a_p_ tp_p_ hd_p_ tf_p_ cf_p_ g o_p_)) sz) := by
  refine Met.ofW (cc := cL_sorted) (maxL := 6) (ret := (some (.array .int))) (by decide) rfl ?_
  intro p e s m args below meth c s₁ B hml hv
  obtain ⟨rfl, hsz, hP, hK, hD0, hG⟩ := hv
  have hx := B.exec
  have hb := B.bytes
  have hr := B.returns
  have hts := atoms_spec (ws := wqL_sorted) B.pre
  have hown : s.vm.findClass RL = some m.cls := findClass_of_methodNamed B.named
  have hlocks := B.notSynchronized
  subst hsz
  have hD := hD0.self (sz := s.heap.size)
  generalize hAe : va_A ([(a_all, .inl (g 0, n_all, .inl all))] ++ (offS a_p_ tp_p_ hd_p_ tf_p_ cf_p_ g o_p_)) s.heap.size = A at hD hG ⊢
  have hA : ∀ q : Nat, s.heap.size ≤ q → A q := fun q h => by rw [← hAe]; exact Or.inr h
  have hS : va_S A s.heap s.heap [] := va_S.rf
  have hrc : (headSpec wqL_sorted ({ frames := 9, cells := 3529, slots := 21368, locals := 149 })).room.cells = 3529 := rfl
  have hrs : (headSpec wqL_sorted ({ frames := 9, cells := 3529, slots := 21368, locals := 149 })).room.slots = 21368 := rfl
  have hl := lv_entry ([.ref t_p_, .ref a_all, .int order]) (n := 6) (Nat.le_of_ble_eq_true rfl)
  rw [lg_entry_eq]
  generalize (lg_sl ([.ref t_p_, .ref a_all, .int order]) ++ List.replicate (6 - (lg_sl ([.ref t_p_, .ref a_all, .int order])).length) Slot.unset).toArray = ls at hl ⊢
  have hl : lv_has ls 6 [(0, .ref t_p_), (1, .ref a_all), (2, .int order)] := hl
  unfold wp_L_sorted_s at hw
  have hnaint := hts (Cond.arrayClass .int) (aw_l aw_1_57)
  refine lv_aload_n hx hb dL_sorted_0 rfl (lv_at hl 1 rfl) ?_
  refine va_alen hx hb hK hP 0 0 rfl rfl (v := nI n_all) rfl dL_sorted_1 ?_
  obtain ⟨n_4, en_4, ln_4, hw⟩ := hw
  refine va_newa (atype := .int) (a0 := (n_4, .inl (fun _ => 0))) hx hb hnaint rfl hK hP hD hS hA (fun _ => rfl) (by rw [en_4]; exact nI_pos (by omega)) (N' := n_4) (by rw [en_4]; exact nI_clamp (by omega)) (show n_4 * 4 ≤ 536870912 by omega) (by rw [hrc]; omega) (by rw [hrs]; omega) dL_sorted_2 (fun a_q_1 cA_3 H_2 hK9 hP hD hS => ?_)
  obtain rfl : g 0 = cA_3 := K_one hK9 0 5 rfl rfl
  obtain ⟨hP, hD⟩ := seg_join [[(a_all, .inl (g 0, n_all, .inl all))], offS a_p_ tp_p_ hd_p_ tf_p_ cf_p_ g o_p_] [[(a_q_1, .inl (g 0, n_4, .inl (fun _ => 0)))]] [[(a_all, .inl (g 0, n_all, .inl all))], [(a_q_1, .inl (g 0, n_4, .inl (fun _ => 0)))], offS a_p_ tp_p_ hd_p_ tf_p_ cf_p_ g o_p_] 3 [0, 2, 1] rfl rfl (by decide) hP hD
  have hP : va_P (dC, dI) vwCl ([(a_all, .inl (g 0, n_all, .inl all)), (a_q_1, .inl (g 0, n_4, .inl (fun _ => 0)))] ++ (offS a_p_ tp_p_ hd_p_ tf_p_ cf_p_ g o_p_)) H_2 := hP
  have hD : va_D A ([(a_all, .inl (g 0, n_all, .inl all)), (a_q_1, .inl (g 0, n_4, .inl (fun _ => 0)))] ++ (offS a_p_ tp_p_ hd_p_ tf_p_ cf_p_ g o_p_)) := hD
  refine W.widen (k := 1) (n := 200) (by omega) (by omega) ?_
  refine lv_astore_n (lv' := [(3, .ref a_q_1), (0, .ref t_p_), (1, .ref a_all), (2, .int order)]) hx hb dL_sorted_4 rfl hl (by decide) rfl (fun ls hl => ?_)
  refine lv_iconst (v := 0) hx hb dL_sorted_5 (by decide) ?_
  refine lv_istore (lv' := [(4, .int 0), (3, .ref a_q_1), (0, .ref t_p_), (1, .ref a_all), (2, .int order)]) hx hb dL_sorted_6 hl (by decide) rfl (fun ls hl => ?_)
  refine W_abs (fun QM hQM => ?_)
  have EX8_72 : ∀ (q2_9 : Nat → Int32) (o_10 : OS) (ad_11 : Nat → Nat) (had_11 : ad_11 0 = t_p_) (H : Heap) (locs : List Loc), (wx_L_sorted_s_8_72 Q n_4) q2_9 o_10 → va_P (dC, dI) vwCl ([(a_all, .inl (g 0, n_all, .inl all)), (a_q_1, .inl (g 0, n_4, .inl q2_9))] ++ (offS ad_11 tp_p_ hd_p_ tf_p_ cf_p_ g o_10)) H → va_D A ([(a_all, .inl (g 0, n_all, .inl all)), (a_q_1, .inl (g 0, n_4, .inl q2_9))] ++ (offS ad_11 tp_p_ hd_p_ tf_p_ cf_p_ g o_10)) → va_S A s.heap H locs → ∀ (ls : Array Slot), lv_has ls 6 [(3, .ref a_q_1)] → W p l e (headSpec wqL_sorted ({ frames := 9, cells := 3529, slots := 21368, locals := 149 })).room s m ([.ref t_p_, .ref a_all, .int order] : List Value).toArray below meth c H locs 3529 21368 QM (F0 m 72 ls []) := by
    intro q2_9 o_10 ad_11 had_11 H locs hw hP hD hS ls hl
    refine lv_aload_n hx hb dL_sorted_72 rfl (lv_at hl 0 rfl) ?_
    refine W.widen (k := 3529) (n := 21368) (by omega) (by omega) ?_
    subst hQM
    exact W.aret (v := .ref a_q_1) hx hb hr (Or.inr ⟨_, rfl⟩) (Or.inr ⟨_, rfl⟩) (fun t ht hW => ⟨⟨some a_q_1, (ad_11, o_10, a_q_1, n_4, q2_9, ()), rfl, ⟨rfl, ⟨hw, had_11⟩⟩, ⟨P_at ht hP, hD⟩⟩, hS.F ht⟩) hS.2.2 dL_sorted_73
  have LOOP8 : ∀ (n8 : Nat), n8 ≤ 42 → ∀ (v4_5 : Int32) (q2_6 : Nat → Int32) (o_7 : OS) (ad_8 : Nat → Nat) (had_8 : ad_8 0 = t_p_) (H : Heap) (locs : List Loc), wl_L_sorted_s_8 n_all all order n_4 (wx_L_sorted_s_8_72 Q n_4) n8 v4_5 q2_6 o_7 → va_P (dC, dI) vwCl ([(a_all, .inl (g 0, n_all, .inl all)), (a_q_1, .inl (g 0, n_4, .inl q2_6))] ++ (offS ad_8 tp_p_ hd_p_ tf_p_ cf_p_ g o_7)) H → va_D A ([(a_all, .inl (g 0, n_all, .inl all)), (a_q_1, .inl (g 0, n_4, .inl q2_6))] ++ (offS ad_8 tp_p_ hd_p_ tf_p_ cf_p_ g o_7)) → va_S A s.heap H locs → ∀ (ls : Array Slot), lv_has ls 6 [(0, .ref t_p_), (1, .ref a_all), (2, .int order), (3, .ref a_q_1), (4, .int v4_5)] → W p l e (headSpec wqL_sorted ({ frames := 9, cells := 3529, slots := 21368, locals := 149 })).room s m ([.ref t_p_, .ref a_all, .int order] : List Value).toArray below meth c H locs (3529 - n8 * 84) (21368 - n8 * 504) QM (F0 m 8 ls []) := by
    intro n8
    induction n8 with
    | zero =>
      intro hle_n8
      intro v4_5 q2_6 o_7 ad_8 had_8 H locs hw hP hD hS ls hl
      exact False.elim hw
    | succ n8 ih8 =>
      intro hle_n8
      have ih8 := ih8 (by omega)
      intro v4_5 q2_6 o_7 ad_8 had_8 H locs hw hP hD hS ls hl
      rw [wl_L_sorted_s_8_s] at hw
      obtain ⟨kb8, hkb8⟩ : ∃ x : Nat, x = 3529 - (n8 + 1) * 84 := ⟨_, rfl⟩
      obtain ⟨nb8, hnb8⟩ : ∃ x : Nat, x = 21368 - (n8 + 1) * 504 := ⟨_, rfl⟩
      refine W.widen (k := kb8) (n := nb8) (by omega) (by omega) ?_
      refine lv_iload hx hb dL_sorted_8 (lv_at hl 4 rfl) ?_
      refine lv_aload_n hx hb dL_sorted_10 rfl (lv_at hl 1 rfl) ?_
      refine va_alen hx hb hK hP 0 0 rfl rfl (v := nI n_all) rfl dL_sorted_11 ?_
      refine lv_icmp_ge (tgt := 72) hx hb dL_sorted_12 (by decide) (fun c_12 => ?_) (fun c_12 => ?_)
      · have hw := hw.1 c_12
        refine W.widen (k := 3529) (n := 21368) (by omega) (by omega) ?_
        exact EX8_72 q2_6 o_7 ad_8 had_8 _ _ hw hP hD hS _ (lv_sub hl [3] rfl)
      · have hw := hw.2 c_12
        refine lv_iload hx hb dL_sorted_15 (lv_at hl 4 rfl) ?_
        refine lv_istore (lv' := [(5, .int v4_5), (0, .ref t_p_), (1, .ref a_all), (2, .int order), (3, .ref a_q_1), (4, .int v4_5)]) hx hb dL_sorted_17 hl (by decide) rfl (fun ls hl => ?_)
        have EX19_58 : ∀ (o_17 : OS) (v5_18 : Int32) (q2_19 : Nat → Int32) (ad_20 : Nat → Nat) (had_20 : ad_20 0 = t_p_) (H : Heap) (locs : List Loc), (wx_L_sorted_s_19_58 n_all all n_4 v4_5 (wl_L_sorted_s_8 n_all all order n_4 (wx_L_sorted_s_8_72 Q n_4) n8)) o_17 v5_18 q2_19 → va_P (dC, dI) vwCl ([(a_all, .inl (g 0, n_all, .inl all)), (a_q_1, .inl (g 0, n_4, .inl q2_19))] ++ (offS ad_20 tp_p_ hd_p_ tf_p_ cf_p_ g o_17)) H → va_D A ([(a_all, .inl (g 0, n_all, .inl all)), (a_q_1, .inl (g 0, n_4, .inl q2_19))] ++ (offS ad_20 tp_p_ hd_p_ tf_p_ cf_p_ g o_17)) → va_S A s.heap H locs → ∀ (ls : Array Slot), lv_has ls 6 [(0, .ref t_p_), (1, .ref a_all), (2, .int order), (3, .ref a_q_1), (4, .int v4_5), (5, .int v5_18)] → W p l e (headSpec wqL_sorted ({ frames := 9, cells := 3529, slots := 21368, locals := 149 })).room s m ([.ref t_p_, .ref a_all, .int order] : List Value).toArray below meth c H locs (kb8 + 84) (nb8 + 504) QM (F0 m 58 ls []) := by
          intro o_17 v5_18 q2_19 ad_20 had_20 H locs hw hP hD hS ls hl
          refine lv_aload_n hx hb dL_sorted_58 rfl (lv_at hl 3 rfl) ?_
          refine lv_iload hx hb dL_sorted_59 (lv_at hl 5 rfl) ?_
          refine lv_aload_n hx hb dL_sorted_61 rfl (lv_at hl 1 rfl) ?_
          refine lv_iload hx hb dL_sorted_62 (lv_at hl 4 rfl) ?_
          refine va_iald hx hb hK hP 0 0 rfl rfl hw.1 dL_sorted_64 ?_
          have hw := hw.2
          refine lv_topi (fun x_21 ex_21 => ?_)
          have hw := hw x_21 ex_21
          refine va_iast hx hb hK hP hD hS 1 0 rfl rfl hw.1 dL_sorted_65 (fun H_22 L_23 hP hD hS => ?_)
          have hw := hw.2
          have hP : va_P (dC, dI) vwCl ([(a_all, .inl (g 0, n_all, .inl all)), (a_q_1, .inl (g 0, n_4, .inl (upd q2_19 v5_18.toNatClampNeg x_21)))] ++ (offS ad_20 tp_p_ hd_p_ tf_p_ cf_p_ g o_17)) H_22 := hP
          have hD : va_D A ([(a_all, .inl (g 0, n_all, .inl all)), (a_q_1, .inl (g 0, n_4, .inl (upd q2_19 v5_18.toNatClampNeg x_21)))] ++ (offS ad_20 tp_p_ hd_p_ tf_p_ cf_p_ g o_17)) := hD
          obtain ⟨x_24, ex_24⟩ : ∃ y : Int32, y = v4_5 + 1 := ⟨_, rfl⟩
          have hw := hw x_24 ex_24
          refine lv_iinc (v := x_24) (lv' := [(4, .int x_24), (0, .ref t_p_), (1, .ref a_all), (2, .int order), (3, .ref a_q_1), (5, .int v5_18)]) hx hb dL_sorted_66 hl (k := 4) rfl (by rw [ex_24]; rfl) (by decide) rfl (fun ls hl => ?_)
          refine lv_goto (tgt := 8) hx hb dL_sorted_69 (by decide) ?_
          refine W.widen (k := (3529 - n8 * 84)) (n := (21368 - n8 * 504)) (by omega) (by omega) ?_
          exact ih8 x_24 (upd q2_19 v5_18.toNatClampNeg x_21) o_17 ad_20 had_20 _ _ hw hP hD hS _ (lv_sub hl [1, 2, 3, 4, 0] rfl)
        have LOOP19 : ∀ (n19 : Nat), n19 ≤ 42 → ∀ (o_13 : OS) (v5_14 : Int32) (q2_15 : Nat → Int32) (ad_16 : Nat → Nat) (had_16 : ad_16 0 = t_p_) (H : Heap) (locs : List Loc), wl_L_sorted_s_19 n_all all order n_4 v4_5 (wx_L_sorted_s_19_58 n_all all n_4 v4_5 (wl_L_sorted_s_8 n_all all order n_4 (wx_L_sorted_s_8_72 Q n_4) n8)) n19 o_13 v5_14 q2_15 → va_P (dC, dI) vwCl ([(a_all, .inl (g 0, n_all, .inl all)), (a_q_1, .inl (g 0, n_4, .inl q2_15))] ++ (offS ad_16 tp_p_ hd_p_ tf_p_ cf_p_ g o_13)) H → va_D A ([(a_all, .inl (g 0, n_all, .inl all)), (a_q_1, .inl (g 0, n_4, .inl q2_15))] ++ (offS ad_16 tp_p_ hd_p_ tf_p_ cf_p_ g o_13)) → va_S A s.heap H locs → ∀ (ls : Array Slot), lv_has ls 6 [(0, .ref t_p_), (1, .ref a_all), (2, .int order), (3, .ref a_q_1), (4, .int v4_5), (5, .int v5_14)] → W p l e (headSpec wqL_sorted ({ frames := 9, cells := 3529, slots := 21368, locals := 149 })).room s m ([.ref t_p_, .ref a_all, .int order] : List Value).toArray below meth c H locs ((kb8 + 84) - n19 * 2) ((nb8 + 504) - n19 * 12) QM (F0 m 19 ls []) := by
          intro n19
          induction n19 with
          | zero =>
            intro hle_n19
            intro o_13 v5_14 q2_15 ad_16 had_16 H locs hw hP hD hS ls hl
            exact False.elim hw
          | succ n19 ih19 =>
            intro hle_n19
            have ih19 := ih19 (by omega)
            intro o_13 v5_14 q2_15 ad_16 had_16 H locs hw hP hD hS ls hl
            rw [wl_L_sorted_s_19_s] at hw
            obtain ⟨kb19, hkb19⟩ : ∃ x : Nat, x = (kb8 + 84) - (n19 + 1) * 2 := ⟨_, rfl⟩
            obtain ⟨nb19, hnb19⟩ : ∃ x : Nat, x = (nb8 + 504) - (n19 + 1) * 12 := ⟨_, rfl⟩
            refine W.widen (k := kb19) (n := nb19) (by omega) (by omega) ?_
            refine lv_iload hx hb dL_sorted_19 (lv_at hl 5 rfl) ?_
            refine lv_if_le (tgt := 58) hx hb dL_sorted_21 (by decide) (fun c_25 => ?_) (fun c_25 => ?_)
            · have hw := hw.1 c_25
              refine W.widen (k := (kb8 + 84)) (n := (nb8 + 504)) (by omega) (by omega) ?_
              exact EX19_58 o_13 v5_14 q2_15 ad_16 had_16 _ _ hw hP hD hS _ (lv_sub hl [0, 1, 2, 3, 4, 5] rfl)
            · have hw := hw.2 c_25
              refine lv_aload_n hx hb dL_sorted_24 rfl (lv_at hl 0 rfl) ?_
              refine lv_aload_n hx hb dL_sorted_25 rfl (lv_at hl 1 rfl) ?_
              refine lv_iload hx hb dL_sorted_26 (lv_at hl 4 rfl) ?_
              refine va_iald hx hb hK hP 0 0 rfl rfl hw.1 dL_sorted_28 ?_
              have hw := hw.2
              refine lv_topi (fun x_26 ex_26 => ?_)
              have hw := hw x_26 ex_26
              refine lv_aload_n hx hb dL_sorted_29 rfl (lv_at hl 3 rfl) ?_
              refine lv_iload hx hb dL_sorted_30 (lv_at hl 5 rfl) ?_
              refine lv_iconst (v := 1) hx hb dL_sorted_32 (by decide) ?_
              refine lv_isub hx hb dL_sorted_33 ?_
              refine lv_topi (fun x_27 ex_27 => ?_)
              have hw := hw x_27 ex_27
              refine va_iald hx hb hK hP 1 0 rfl rfl hw.1 dL_sorted_34 ?_
              have hw := hw.2
              refine lv_topi (fun x_28 ex_28 => ?_)
              have hw := hw x_28 ex_28
              refine lv_iload_n hx hb dL_sorted_35 rfl (lv_at hl 2 rfl) ?_
              obtain ⟨hPs, hDs⟩ := seg_call (segs := [[(a_all, .inl (g 0, n_all, .inl all))], [(a_q_1, .inl (g 0, n_4, .inl q2_15))], offS ad_16 tp_p_ hd_p_ tf_p_ cf_p_ g o_13]) [[(a_all, .inl (g 0, n_all, .inl all))], [(a_q_1, .inl (g 0, n_4, .inl q2_15))]] [offS ad_16 tp_p_ hd_p_ tf_p_ cf_p_ g o_13] 3 [0, 1, 2] rfl rfl (by decide) hP hD
              have hPc : va_P (dC, dI) vwCl (offS ad_16 tp_p_ hd_p_ tf_p_ cf_p_ g o_13) H := P_r hPs
              have hDc : va_D A (offS ad_16 tp_p_ hd_p_ tf_p_ cf_p_ g o_13) := D_r hDs
              have hFc : ∀ q, va_A (offS ad_16 tp_p_ hd_p_ tf_p_ cf_p_ g o_13) H.size q → A q := A_all hDc hA hS.1
              refine va_calli (va_runS (As := [.ref t_p_, .int x_26, .int x_28, .int order]) (rest := []) ⟨hx, hb, hml, hown, hts⟩ (c_L_before l hlf dC dI g (tp_p_ := tp_p_) (hd_p_ := hd_p_) (tf_p_ := tf_p_) (cf_p_ := cf_p_) (htf_p_ := htf_p_) (hcf_p_ := hcf_p_) (a_p_ := ad_16) (t_p_ := t_p_) (h_p_ := had_16) (o_p_ := o_13) (one := x_26) (other := x_28) (order := order) (hw := hw) (sz := H.size)) (va_cwS 4 hts (gqS aw_4_18 aw_4_19 aw_1_0 aw_4_20) rfl rfl rfl (by decide +kernel) ⟨Nat.le_of_ble_eq_true rfl, Nat.le_of_ble_eq_true rfl⟩) ⟨PG_blind, PG_call hK hG hS hPc hDc hFc⟩ rfl rfl hl.1 rfl (lv_room (Nat.le_of_ble_eq_true rfl)) dL_sorted_36 ⟨by rw [hrc]; omega, by rw [hrs]; omega⟩) hS (fun q _ h => hFc q h) hFc (fun r_29 u_29 t_29 H_29 L_29 ht_29 hvm_29 hw_29 hB_29 hz_29 hk_29 hS => ?_)
              obtain ⟨ad_30, o_31, u_29⟩ := u_29
              obtain ⟨b_29, rfl, ⟨hw, had_30⟩⟩ := hw_29
              rw [ht_29] at hB_29
              obtain ⟨hP1, hD1⟩ := hB_29
              obtain ⟨hP, hD⟩ := join_r hPs hDs hk_29 hFc hP1 hD1
              obtain ⟨hP, hD⟩ := seg_join [[(a_all, .inl (g 0, n_all, .inl all))], [(a_q_1, .inl (g 0, n_4, .inl q2_15))]] [offS ad_30 tp_p_ hd_p_ tf_p_ cf_p_ g o_31] [[(a_all, .inl (g 0, n_all, .inl all))], [(a_q_1, .inl (g 0, n_4, .inl q2_15))], offS ad_30 tp_p_ hd_p_ tf_p_ cf_p_ g o_31] 3 [0, 1, 2] rfl rfl (by decide) hP hD
              have hP : va_P (dC, dI) vwCl ([(a_all, .inl (g 0, n_all, .inl all)), (a_q_1, .inl (g 0, n_4, .inl q2_15))] ++ (offS ad_30 tp_p_ hd_p_ tf_p_ cf_p_ g o_31)) H_29 := hP
              have hD : va_D A ([(a_all, .inl (g 0, n_all, .inl all)), (a_q_1, .inl (g 0, n_4, .inl q2_15))] ++ (offS ad_30 tp_p_ hd_p_ tf_p_ cf_p_ g o_31)) := hD
              refine W.widen (k := (kb19 + 2)) (n := (nb19 + 12)) (by omega) (by omega) ?_
              refine lv_if_eq (tgt := 58) hx hb dL_sorted_39 (by decide) (fun c_32 => ?_) (fun c_32 => ?_)
              · have hw := hw.1 (b2i_0 c_32)
                refine W.widen (k := (kb8 + 84)) (n := (nb8 + 504)) (by omega) (by omega) ?_
                exact EX19_58 o_31 v5_14 q2_15 ad_30 had_30 _ _ hw hP hD hS _ (lv_sub hl [0, 1, 2, 3, 4, 5] rfl)
              · have hw := hw.2 (b2i_1 c_32)
                refine lv_aload_n hx hb dL_sorted_42 rfl (lv_at hl 3 rfl) ?_
                refine lv_iload hx hb dL_sorted_43 (lv_at hl 5 rfl) ?_
                refine lv_aload_n hx hb dL_sorted_45 rfl (lv_at hl 3 rfl) ?_
                refine lv_iload hx hb dL_sorted_46 (lv_at hl 5 rfl) ?_
                refine lv_iconst (v := 1) hx hb dL_sorted_48 (by decide) ?_
                refine lv_isub hx hb dL_sorted_49 ?_
                refine lv_topi (fun x_33 ex_33 => ?_)
                have hw := hw x_33 ex_33
                refine va_iald hx hb hK hP 1 0 rfl rfl hw.1 dL_sorted_50 ?_
                have hw := hw.2
                refine lv_topi (fun x_34 ex_34 => ?_)
                have hw := hw x_34 ex_34
                refine va_iast hx hb hK hP hD hS 1 0 rfl rfl hw.1 dL_sorted_51 (fun H_35 L_36 hP hD hS => ?_)
                have hw := hw.2
                have hP : va_P (dC, dI) vwCl ([(a_all, .inl (g 0, n_all, .inl all)), (a_q_1, .inl (g 0, n_4, .inl (upd q2_15 v5_14.toNatClampNeg x_34)))] ++ (offS ad_30 tp_p_ hd_p_ tf_p_ cf_p_ g o_31)) H_35 := hP
                have hD : va_D A ([(a_all, .inl (g 0, n_all, .inl all)), (a_q_1, .inl (g 0, n_4, .inl (upd q2_15 v5_14.toNatClampNeg x_34)))] ++ (offS ad_30 tp_p_ hd_p_ tf_p_ cf_p_ g o_31)) := hD
                obtain ⟨x_37, ex_37⟩ : ∃ y : Int32, y = v5_14 + (-1) := ⟨_, rfl⟩
                have hw := hw x_37 ex_37
                refine lv_iinc (v := x_37) (lv' := [(5, .int x_37), (0, .ref t_p_), (1, .ref a_all), (2, .int order), (3, .ref a_q_1), (4, .int v4_5)]) hx hb dL_sorted_52 hl (k := 5) rfl (by rw [ex_37]; rfl) (by decide) rfl (fun ls hl => ?_)
                refine lv_goto (tgt := 19) hx hb dL_sorted_55 (by decide) ?_
                refine W.widen (k := ((kb8 + 84) - n19 * 2)) (n := ((nb8 + 504) - n19 * 12)) (by omega) (by omega) ?_
                exact ih19 o_31 x_37 (upd q2_15 v5_14.toNatClampNeg x_34) ad_30 had_30 _ _ hw hP hD hS _ (lv_sub hl [1, 2, 3, 4, 5, 0] rfl)
        obtain ⟨n19, hle19, hw⟩ := hw
        refine W.widen (k := ((kb8 + 84) - n19 * 2)) (n := ((nb8 + 504) - n19 * 12)) (by omega) (by omega) ?_
        exact LOOP19 n19 hle19 o_7 v4_5 q2_6 ad_8 had_8 _ _ hw hP hD hS _ (lv_sub hl [1, 2, 3, 4, 5, 0] rfl)
  obtain ⟨n8, hle8, hw⟩ := hw
  refine W.widen (k := (3529 - n8 * 84)) (n := (21368 - n8 * 504)) (by omega) (by omega) ?_
  exact LOOP8 n8 hle8 0 (fun _ => 0) o_p_ a_p_ h_p_ _ _ hw hP hD hS _ (lv_sub hl [2, 3, 4, 1, 0] rfl)
theorem dL_hasKey_0 : decode cL_hasKey 0 = .ok (.iconst 0, 1) := by decide +kernel
theorem dL_hasKey_1 : decode cL_hasKey 1 = .ok (.istore_n 3, 1) := by decide +kernel
theorem dL_hasKey_2 : decode cL_hasKey 2 = .ok (.aload_n 1, 1) := by decide +kernel
theorem dL_hasKey_3 : decode cL_hasKey 3 = .ok (.astore 4, 2) := by decide +kernel
theorem dL_hasKey_5 : decode cL_hasKey 5 = .ok (.aload 4, 2) := by decide +kernel
theorem dL_hasKey_7 : decode cL_hasKey 7 = .ok (.arraylength, 1) := by decide +kernel
theorem dL_hasKey_8 : decode cL_hasKey 8 = .ok (.istore 5, 2) := by decide +kernel
theorem dL_hasKey_10 : decode cL_hasKey 10 = .ok (.iconst 0, 1) := by decide +kernel
theorem dL_hasKey_11 : decode cL_hasKey 11 = .ok (.istore 6, 2) := by decide +kernel
theorem dL_hasKey_51 : decode cL_hasKey 51 = .ok (.iload_n 3, 1) := by decide +kernel
theorem dL_hasKey_52 : decode cL_hasKey 52 = .ok (.ireturn, 1) := by decide +kernel
theorem dL_hasKey_13 : decode cL_hasKey 13 = .ok (.iload 6, 2) := by decide +kernel
theorem dL_hasKey_15 : decode cL_hasKey 15 = .ok (.iload 5, 2) := by decide +kernel
theorem dL_hasKey_17 : decode cL_hasKey 17 = .ok (.if_icmp .ge 34, 3) := by decide +kernel
theorem dL_hasKey_20 : decode cL_hasKey 20 = .ok (.aload 4, 2) := by decide +kernel
theorem dL_hasKey_22 : decode cL_hasKey 22 = .ok (.iload 6, 2) := by decide +kernel
theorem dL_hasKey_24 : decode cL_hasKey 24 = .ok (.iaload, 1) := by decide +kernel
theorem dL_hasKey_25 : decode cL_hasKey 25 = .ok (.istore 7, 2) := by decide +kernel
theorem dL_hasKey_27 : decode cL_hasKey 27 = .ok (.iload_n 3, 1) := by decide +kernel
theorem dL_hasKey_28 : decode cL_hasKey 28 = .ok (.aload_n 0, 1) := by decide +kernel
theorem dL_hasKey_29 : decode cL_hasKey 29 = .ok (.iload 7, 2) := by decide +kernel
theorem dL_hasKey_31 : decode cL_hasKey 31 = .ok (.invokevirtual 93, 3) := by decide +kernel
theorem dL_hasKey_34 : decode cL_hasKey 34 = .ok (.iload_n 2, 1) := by decide +kernel
theorem dL_hasKey_35 : decode cL_hasKey 35 = .ok (.if_icmp .ne 7, 3) := by decide +kernel
theorem dL_hasKey_42 : decode cL_hasKey 42 = .ok (.iconst 0, 1) := by decide +kernel
theorem dL_hasKey_43 : decode cL_hasKey 43 = .ok (.ior, 1) := by decide +kernel
theorem dL_hasKey_44 : decode cL_hasKey 44 = .ok (.istore_n 3, 1) := by decide +kernel
theorem dL_hasKey_45 : decode cL_hasKey 45 = .ok (.iinc 6 1, 3) := by decide +kernel
theorem dL_hasKey_48 : decode cL_hasKey 48 = .ok (.goto (-35), 3) := by decide +kernel
theorem dL_hasKey_38 : decode cL_hasKey 38 = .ok (.iconst 1, 1) := by decide +kernel
theorem dL_hasKey_39 : decode cL_hasKey 39 = .ok (.goto 4, 3) := by decide +kernel

set_option maxHeartbeats 8000000 in
set_option maxRecDepth 100000 in
theorem c_L_hasKey (l : Launch) (hlf : l.stackTraces = false) (dC : Nat → ClassId) (dI : Nat → Nat → Nat) (g : Nat → ClassId) (tp_p_ hd_p_ : Nat → Nat) (tf_p_ cf_p_ : Nat → Option Nat) (htf_p_ : ∀ j, j < 8 → tf_p_ j = some (tp_p_ j)) (hcf_p_ : ∀ j, j < 8 → cf_p_ j = some (tp_p_ (8 + j))) (a_p_ : Nat → Nat) (t_p_ : Nat) (h_p_ : a_p_ 0 = t_p_) (o_p_ : OS) (a_all n_all : Nat) (all : Nat → Int32) (key : Int32) (Q : Bool → OS → Prop) (hw : wp_L_hasKey o_p_ n_all all key Q) (sz : Nat) : Met l yL_hasKey wqL_hasKey ({ frames := 8, cells := 101, slots := 606, locals := 124 }) (va_Pc [.ref t_p_, .ref a_all, .int key] (PG (dC, dI) g ([(a_all, .inl (g 0, n_all, .inl all))] ++ (offS a_p_ tp_p_ hd_p_ tf_p_ cf_p_ g o_p_)) sz)) (va_Qi (fun (r : Int32) (u : (Nat → Nat) × OS × Unit) => ∃ b : Bool, r = b2i b ∧ (Q b u.2.1 ∧ u.1 0 = t_p_)) (fun (u : (Nat → Nat) × OS × Unit) t9 => va_P (dC, dI) vwCl ([(a_all, .inl (g 0, n_all, .inl all))] ++ (offS u.1 tp_p_ hd_p_ tf_p_ cf_p_ g u.2.1)) t9.heap ∧ va_D (va_A ([(a_all, .inl (g 0, n_all, .inl all))] ++ (offS a_p_ tp_p_ hd_p_ tf_p_ cf_p_ g o_p_)) sz) ([(a_all, .inl (g 0, n_all, .inl all))] ++ (offS u.1 tp_p_ hd_p_ tf_p_ cf_p_ g u.2.1))) (va_A ([(a_all, .inl (g 0, n_all, .inl all))] ++ (offS a_p_ tp_p_ hd_p_ tf_p_ cf_p_ g o_p_)) sz)) 101 606 (va_A ([(a_all, .inl (g 0, n_all, .inl all))] ++ (offS a_p_ tp_p_ hd_p_ tf_p_ cf_p_ g o_p_)) sz) := by
  refine Met.ofW (cc := cL_hasKey) (maxL := 8) (ret := (some .boolean)) (by decide) rfl ?_
  intro p e s m args below meth c s₁ B hml hv
  obtain ⟨rfl, hsz, hP, hK, hD0, hG⟩ := hv
  have hx := B.exec
  have hb := B.bytes
  have hr := B.returns
  have hts := atoms_spec (ws := wqL_hasKey) B.pre
  have hown : s.vm.findClass RL = some m.cls := findClass_of_methodNamed B.named
  have hlocks := B.notSynchronized
  subst hsz
  have hD := hD0.self (sz := s.heap.size)
  generalize hAe : va_A ([(a_all, .inl (g 0, n_all, .inl all))] ++ (offS a_p_ tp_p_ hd_p_ tf_p_ cf_p_ g o_p_)) s.heap.size = A at hD hG ⊢
  have hA : ∀ q : Nat, s.heap.size ≤ q → A q := fun q h => by rw [← hAe]; exact Or.inr h
  have hS : va_S A s.heap s.heap [] := va_S.rf
  have hrc : (headSpec wqL_hasKey ({ frames := 8, cells := 101, slots := 606, locals := 124 })).room.cells = 101 := rfl
  have hrs : (headSpec wqL_hasKey ({ frames := 8, cells := 101, slots := 606, locals := 124 })).room.slots = 606 := rfl
  have hl := lv_entry ([.ref t_p_, .ref a_all, .int key]) (n := 8) (Nat.le_of_ble_eq_true rfl)
  rw [lg_entry_eq]
  generalize (lg_sl ([.ref t_p_, .ref a_all, .int key]) ++ List.replicate (8 - (lg_sl ([.ref t_p_, .ref a_all, .int key])).length) Slot.unset).toArray = ls at hl ⊢
  have hl : lv_has ls 8 [(0, .ref t_p_), (1, .ref a_all), (2, .int key)] := hl
  unfold wp_L_hasKey at hw
  refine lv_iconst (v := 0) hx hb dL_hasKey_0 (by decide) ?_
  refine lv_istore_n (lv' := [(3, .int 0), (0, .ref t_p_), (1, .ref a_all), (2, .int key)]) hx hb dL_hasKey_1 rfl hl (by decide) rfl (fun ls hl => ?_)
  refine lv_aload_n hx hb dL_hasKey_2 rfl (lv_at hl 2 rfl) ?_
  refine lv_astore (lv' := [(4, .ref a_all), (3, .int 0), (0, .ref t_p_), (1, .ref a_all), (2, .int key)]) hx hb dL_hasKey_3 hl (by decide) rfl (fun ls hl => ?_)
  refine lv_aload hx hb dL_hasKey_5 (lv_at hl 0 rfl) ?_
  refine va_alen hx hb hK hP 0 0 rfl rfl (v := nI n_all) rfl dL_hasKey_7 ?_
  refine lv_istore (lv' := [(5, .int (nI n_all)), (4, .ref a_all), (3, .int 0), (0, .ref t_p_), (1, .ref a_all), (2, .int key)]) hx hb dL_hasKey_8 hl (by decide) rfl (fun ls hl => ?_)
  refine lv_iconst (v := 0) hx hb dL_hasKey_10 (by decide) ?_
  refine lv_istore (lv' := [(6, .int 0), (5, .int (nI n_all)), (4, .ref a_all), (3, .int 0), (0, .ref t_p_), (1, .ref a_all), (2, .int key)]) hx hb dL_hasKey_11 hl (by decide) rfl (fun ls hl => ?_)
  refine W_abs (fun QM hQM => ?_)
  have EX13_51 : ∀ (o_5 : OS) (v3_6 : Bool) (ad_7 : Nat → Nat) (had_7 : ad_7 0 = t_p_) (H : Heap) (locs : List Loc), (wx_L_hasKey_13_51 Q) o_5 v3_6 → va_P (dC, dI) vwCl ([(a_all, .inl (g 0, n_all, .inl all))] ++ (offS ad_7 tp_p_ hd_p_ tf_p_ cf_p_ g o_5)) H → va_D A ([(a_all, .inl (g 0, n_all, .inl all))] ++ (offS ad_7 tp_p_ hd_p_ tf_p_ cf_p_ g o_5)) → va_S A s.heap H locs → ∀ (ls : Array Slot), lv_has ls 8 [(3, .int (b2i v3_6))] → W p l e (headSpec wqL_hasKey ({ frames := 8, cells := 101, slots := 606, locals := 124 })).room s m ([.ref t_p_, .ref a_all, .int key] : List Value).toArray below meth c H locs 101 606 QM (F0 m 51 ls []) := by
    intro o_5 v3_6 ad_7 had_7 H locs hw hP hD hS ls hl
    refine lv_iload_n hx hb dL_hasKey_51 rfl (lv_at hl 0 rfl) ?_
    refine W.widen (k := 101) (n := 606) (by omega) (by omega) ?_
    subst hQM
    exact W.zret (v := (b2i v3_6)) hx hb hr (nar_b2i _) (fun t ht hW => ⟨⟨_, (ad_7, o_5, ()), rfl, ⟨v3_6, rfl, ⟨hw, had_7⟩⟩, ⟨P_at ht hP, hD⟩⟩, hS.F ht⟩) hS.2.2 dL_hasKey_52
  have LOOP13 : ∀ (n13 : Nat), n13 ≤ 101 → ∀ (v6_1 : Int32) (o_2 : OS) (v3_3 : Bool) (ad_4 : Nat → Nat) (had_4 : ad_4 0 = t_p_) (H : Heap) (locs : List Loc), wl_L_hasKey_13 n_all all key (wx_L_hasKey_13_51 Q) n13 v6_1 o_2 v3_3 → va_P (dC, dI) vwCl ([(a_all, .inl (g 0, n_all, .inl all))] ++ (offS ad_4 tp_p_ hd_p_ tf_p_ cf_p_ g o_2)) H → va_D A ([(a_all, .inl (g 0, n_all, .inl all))] ++ (offS ad_4 tp_p_ hd_p_ tf_p_ cf_p_ g o_2)) → va_S A s.heap H locs → ∀ (ls : Array Slot), lv_has ls 8 [(0, .ref t_p_), (2, .int key), (3, .int (b2i v3_3)), (4, .ref a_all), (5, .int (nI n_all)), (6, .int v6_1)] → W p l e (headSpec wqL_hasKey ({ frames := 8, cells := 101, slots := 606, locals := 124 })).room s m ([.ref t_p_, .ref a_all, .int key] : List Value).toArray below meth c H locs (101 - n13 * 1) (606 - n13 * 6) QM (F0 m 13 ls []) := by
    intro n13
    induction n13 with
    | zero =>
      intro hle_n13
      intro v6_1 o_2 v3_3 ad_4 had_4 H locs hw hP hD hS ls hl
      exact False.elim hw
    | succ n13 ih13 =>
      intro hle_n13
      have ih13 := ih13 (by omega)
      intro v6_1 o_2 v3_3 ad_4 had_4 H locs hw hP hD hS ls hl
      rw [wl_L_hasKey_13_s] at hw
      obtain ⟨kb13, hkb13⟩ : ∃ x : Nat, x = 101 - (n13 + 1) * 1 := ⟨_, rfl⟩
      obtain ⟨nb13, hnb13⟩ : ∃ x : Nat, x = 606 - (n13 + 1) * 6 := ⟨_, rfl⟩
      refine W.widen (k := kb13) (n := nb13) (by omega) (by omega) ?_
      refine lv_iload hx hb dL_hasKey_13 (lv_at hl 5 rfl) ?_
      refine lv_iload hx hb dL_hasKey_15 (lv_at hl 4 rfl) ?_
      refine lv_icmp_ge (tgt := 51) hx hb dL_hasKey_17 (by decide) (fun c_8 => ?_) (fun c_8 => ?_)
      · have hw := hw.1 c_8
        refine W.widen (k := 101) (n := 606) (by omega) (by omega) ?_
        exact EX13_51 o_2 v3_3 ad_4 had_4 _ _ hw hP hD hS _ (lv_sub hl [2] rfl)
      · have hw := hw.2 c_8
        refine lv_aload hx hb dL_hasKey_20 (lv_at hl 3 rfl) ?_
        refine lv_iload hx hb dL_hasKey_22 (lv_at hl 5 rfl) ?_
        refine va_iald hx hb hK hP 0 0 rfl rfl hw.1 dL_hasKey_24 ?_
        have hw := hw.2
        refine lv_topi (fun x_9 ex_9 => ?_)
        have hw := hw x_9 ex_9
        refine lv_istore (lv' := [(7, .int x_9), (0, .ref t_p_), (2, .int key), (3, .int (b2i v3_3)), (4, .ref a_all), (5, .int (nI n_all)), (6, .int v6_1)]) hx hb dL_hasKey_25 hl (by decide) rfl (fun ls hl => ?_)
        refine lv_iload_n hx hb dL_hasKey_27 rfl (lv_at hl 3 rfl) ?_
        refine lv_aload_n hx hb dL_hasKey_28 rfl (lv_at hl 1 rfl) ?_
        refine lv_iload hx hb dL_hasKey_29 (lv_at hl 0 rfl) ?_
        obtain ⟨hPs, hDs⟩ := seg_call (segs := [[(a_all, .inl (g 0, n_all, .inl all))], offS ad_4 tp_p_ hd_p_ tf_p_ cf_p_ g o_2]) [[(a_all, .inl (g 0, n_all, .inl all))]] [offS ad_4 tp_p_ hd_p_ tf_p_ cf_p_ g o_2] 2 [0, 1] rfl rfl (by decide) hP hD
        have hPc : va_P (dC, dI) vwCl (offS ad_4 tp_p_ hd_p_ tf_p_ cf_p_ g o_2) H := P_r hPs
        have hDc : va_D A (offS ad_4 tp_p_ hd_p_ tf_p_ cf_p_ g o_2) := D_r hDs
        have hFc : ∀ q, va_A (offS ad_4 tp_p_ hd_p_ tf_p_ cf_p_ g o_2) H.size q → A q := A_all hDc hA hS.1
        refine vx_calli (vx_runV (As := [.int x_9]) (rest := [.int (b2i v3_3)]) ⟨hx, hb, hml, hown, hts⟩ (p_key l hlf dC dI g tp_p_ hd_p_ tf_p_ cf_p_ htf_p_ hcf_p_ ad_4 t_p_ had_4 o_2 x_9 (hw := hw) (sz := H.size)) (cwV 1 hts (gqV aw_4_21 aw_4_22 aw_4_23 aw_1_1 aw_4_24) rfl rfl rfl (by decide +kernel) ⟨Nat.le_of_ble_eq_true rfl, Nat.le_of_ble_eq_true rfl⟩) ⟨PG_blind, off_recv had_4 hK hPc, PG_call hK hG hS hPc hDc hFc⟩ rfl rfl hl.1 rfl (lv_room (Nat.le_of_ble_eq_true rfl)) dL_hasKey_31 ⟨by rw [hrc]; omega, by rw [hrs]; omega⟩) hS (fun q _ h => hFc q h) hFc (fun q _ h => hFc q h) (fun E ce q9 ux t H1 locs1 ht hvm hp9 hB9 hz hk hS9 hce hcv hcl => ?_) (fun r_10 u_10 t_10 H_10 L_10 ht_10 hvm_10 hw_10 hB_10 hz_10 hk_10 hS => ?_)
        · exact (hB9.1.1).elim
        obtain ⟨ad_11, o_12⟩ := u_10
        obtain ⟨hw, had_11⟩ := hw_10
        rw [ht_10] at hB_10
        obtain ⟨hP1, hD1⟩ := hB_10
        obtain ⟨hP, hD⟩ := join_r hPs hDs hk_10 hFc hP1 hD1
        obtain ⟨hP, hD⟩ := seg_join [[(a_all, .inl (g 0, n_all, .inl all))]] [offS ad_11 tp_p_ hd_p_ tf_p_ cf_p_ g o_12] [[(a_all, .inl (g 0, n_all, .inl all))], offS ad_11 tp_p_ hd_p_ tf_p_ cf_p_ g o_12] 2 [0, 1] rfl rfl (by decide) hP hD
        have hP : va_P (dC, dI) vwCl ([(a_all, .inl (g 0, n_all, .inl all))] ++ (offS ad_11 tp_p_ hd_p_ tf_p_ cf_p_ g o_12)) H_10 := hP
        have hD : va_D A ([(a_all, .inl (g 0, n_all, .inl all))] ++ (offS ad_11 tp_p_ hd_p_ tf_p_ cf_p_ g o_12)) := hD
        refine W.widen (k := (kb13 + 1)) (n := (nb13 + 6)) (by omega) (by omega) ?_
        refine lv_iload_n hx hb dL_hasKey_34 rfl (lv_at hl 2 rfl) ?_
        refine lv_icmp_ne (tgt := 42) hx hb dL_hasKey_35 (by decide) (fun c_13 => ?_) (fun c_13 => ?_)
        · have hw := hw.2 c_13
          refine lv_iconst (v := 0) hx hb dL_hasKey_42 (by decide) ?_
          refine lv_ior hx hb dL_hasKey_43 ?_
          refine W.eq (g2 := F0 m 44 ls [.int (b2i (v3_3 || false))]) (congrArg (fun z => F0 m 44 ls (.int z :: [])) (b2i_or v3_3 false)) ?_
          refine lv_istore_n (lv' := [(3, .int (b2i (v3_3 || false))), (7, .int x_9), (0, .ref t_p_), (2, .int key), (4, .ref a_all), (5, .int (nI n_all)), (6, .int v6_1)]) hx hb dL_hasKey_44 rfl hl (by decide) rfl (fun ls hl => ?_)
          obtain ⟨x_14, ex_14⟩ : ∃ y : Int32, y = v6_1 + 1 := ⟨_, rfl⟩
          have hw := hw x_14 ex_14
          refine lv_iinc (v := x_14) (lv' := [(6, .int x_14), (3, .int (b2i (v3_3 || false))), (7, .int x_9), (0, .ref t_p_), (2, .int key), (4, .ref a_all), (5, .int (nI n_all))]) hx hb dL_hasKey_45 hl (k := 6) rfl (by rw [ex_14]; rfl) (by decide) rfl (fun ls hl => ?_)
          refine lv_goto (tgt := 13) hx hb dL_hasKey_48 (by decide) ?_
          refine W.widen (k := (101 - n13 * 1)) (n := (606 - n13 * 6)) (by omega) (by omega) ?_
          exact ih13 x_14 o_12 (v3_3 || false) ad_11 had_11 _ _ hw hP hD hS _ (lv_sub hl [3, 4, 1, 5, 6, 0] rfl)
        · have hw := hw.1 c_13
          refine lv_iconst (v := 1) hx hb dL_hasKey_38 (by decide) ?_
          refine lv_goto (tgt := 43) hx hb dL_hasKey_39 (by decide) ?_
          refine lv_ior hx hb dL_hasKey_43 ?_
          refine W.eq (g2 := F0 m 44 ls [.int (b2i (v3_3 || true))]) (congrArg (fun z => F0 m 44 ls (.int z :: [])) (b2i_or v3_3 true)) ?_
          refine lv_istore_n (lv' := [(3, .int (b2i (v3_3 || true))), (7, .int x_9), (0, .ref t_p_), (2, .int key), (4, .ref a_all), (5, .int (nI n_all)), (6, .int v6_1)]) hx hb dL_hasKey_44 rfl hl (by decide) rfl (fun ls hl => ?_)
          obtain ⟨x_15, ex_15⟩ : ∃ y : Int32, y = v6_1 + 1 := ⟨_, rfl⟩
          have hw := hw x_15 ex_15
          refine lv_iinc (v := x_15) (lv' := [(6, .int x_15), (3, .int (b2i (v3_3 || true))), (7, .int x_9), (0, .ref t_p_), (2, .int key), (4, .ref a_all), (5, .int (nI n_all))]) hx hb dL_hasKey_45 hl (k := 6) rfl (by rw [ex_15]; rfl) (by decide) rfl (fun ls hl => ?_)
          refine lv_goto (tgt := 13) hx hb dL_hasKey_48 (by decide) ?_
          refine W.widen (k := (101 - n13 * 1)) (n := (606 - n13 * 6)) (by omega) (by omega) ?_
          exact ih13 x_15 o_12 (v3_3 || true) ad_11 had_11 _ _ hw hP hD hS _ (lv_sub hl [3, 4, 1, 5, 6, 0] rfl)
  obtain ⟨n13, hle13, hw⟩ := hw
  refine W.widen (k := (101 - n13 * 1)) (n := (606 - n13 * 6)) (by omega) (by omega) ?_
  exact LOOP13 n13 hle13 0 o_p_ false a_p_ h_p_ _ _ hw hP hD hS _ (lv_sub hl [4, 6, 3, 2, 1, 0] rfl)
theorem dL_statement_0 : decode cL_statement 0 = .ok (.bipush 9, 2) := by decide +kernel
theorem dL_statement_2 : decode cL_statement 2 = .ok (.newarray .int, 2) := by decide +kernel
theorem dL_statement_4 : decode cL_statement 4 = .ok (.dup, 1) := by decide +kernel
theorem dL_statement_5 : decode cL_statement 5 = .ok (.iconst 0, 1) := by decide +kernel
theorem dL_statement_6 : decode cL_statement 6 = .ok (.aload_n 0, 1) := by decide +kernel
theorem dL_statement_7 : decode cL_statement 7 = .ok (.bipush 9, 2) := by decide +kernel
theorem dL_statement_9 : decode cL_statement 9 = .ok (.invokestatic 103, 3) := by decide +kernel
theorem dL_statement_12 : decode cL_statement 12 = .ok (.iastore, 1) := by decide +kernel
theorem dL_statement_13 : decode cL_statement 13 = .ok (.dup, 1) := by decide +kernel
theorem dL_statement_14 : decode cL_statement 14 = .ok (.iconst 1, 1) := by decide +kernel
theorem dL_statement_15 : decode cL_statement 15 = .ok (.aload_n 0, 1) := by decide +kernel
theorem dL_statement_16 : decode cL_statement 16 = .ok (.iconst 5, 1) := by decide +kernel
theorem dL_statement_17 : decode cL_statement 17 = .ok (.invokestatic 103, 3) := by decide +kernel
theorem dL_statement_20 : decode cL_statement 20 = .ok (.iastore, 1) := by decide +kernel
theorem dL_statement_21 : decode cL_statement 21 = .ok (.dup, 1) := by decide +kernel
theorem dL_statement_22 : decode cL_statement 22 = .ok (.iconst 2, 1) := by decide +kernel
theorem dL_statement_23 : decode cL_statement 23 = .ok (.aload_n 0, 1) := by decide +kernel
theorem dL_statement_24 : decode cL_statement 24 = .ok (.iconst 5, 1) := by decide +kernel
theorem dL_statement_25 : decode cL_statement 25 = .ok (.invokestatic 103, 3) := by decide +kernel
theorem dL_statement_28 : decode cL_statement 28 = .ok (.iastore, 1) := by decide +kernel
theorem dL_statement_29 : decode cL_statement 29 = .ok (.dup, 1) := by decide +kernel
theorem dL_statement_30 : decode cL_statement 30 = .ok (.iconst 3, 1) := by decide +kernel
theorem dL_statement_31 : decode cL_statement 31 = .ok (.aload_n 0, 1) := by decide +kernel
theorem dL_statement_32 : decode cL_statement 32 = .ok (.bipush 8, 2) := by decide +kernel
theorem dL_statement_34 : decode cL_statement 34 = .ok (.invokestatic 103, 3) := by decide +kernel
theorem dL_statement_37 : decode cL_statement 37 = .ok (.iastore, 1) := by decide +kernel
theorem dL_statement_38 : decode cL_statement 38 = .ok (.dup, 1) := by decide +kernel
theorem dL_statement_39 : decode cL_statement 39 = .ok (.iconst 4, 1) := by decide +kernel
theorem dL_statement_40 : decode cL_statement 40 = .ok (.iconst (-1), 1) := by decide +kernel
theorem dL_statement_41 : decode cL_statement 41 = .ok (.iastore, 1) := by decide +kernel
theorem dL_statement_42 : decode cL_statement 42 = .ok (.dup, 1) := by decide +kernel
theorem dL_statement_43 : decode cL_statement 43 = .ok (.iconst 5, 1) := by decide +kernel
theorem dL_statement_44 : decode cL_statement 44 = .ok (.iconst (-1), 1) := by decide +kernel
theorem dL_statement_45 : decode cL_statement 45 = .ok (.iastore, 1) := by decide +kernel
theorem dL_statement_46 : decode cL_statement 46 = .ok (.dup, 1) := by decide +kernel
theorem dL_statement_47 : decode cL_statement 47 = .ok (.bipush 6, 2) := by decide +kernel
theorem dL_statement_49 : decode cL_statement 49 = .ok (.iconst (-1), 1) := by decide +kernel
theorem dL_statement_50 : decode cL_statement 50 = .ok (.iastore, 1) := by decide +kernel
theorem dL_statement_51 : decode cL_statement 51 = .ok (.dup, 1) := by decide +kernel
theorem dL_statement_52 : decode cL_statement 52 = .ok (.bipush 7, 2) := by decide +kernel
theorem dL_statement_54 : decode cL_statement 54 = .ok (.iconst (-1), 1) := by decide +kernel
theorem dL_statement_55 : decode cL_statement 55 = .ok (.iastore, 1) := by decide +kernel
theorem dL_statement_56 : decode cL_statement 56 = .ok (.dup, 1) := by decide +kernel
theorem dL_statement_57 : decode cL_statement 57 = .ok (.bipush 8, 2) := by decide +kernel
theorem dL_statement_59 : decode cL_statement 59 = .ok (.iconst (-1), 1) := by decide +kernel
theorem dL_statement_60 : decode cL_statement 60 = .ok (.iastore, 1) := by decide +kernel
theorem dL_statement_61 : decode cL_statement 61 = .ok (.astore_n 1, 1) := by decide +kernel
theorem dL_statement_62 : decode cL_statement 62 = .ok (.aload_n 0, 1) := by decide +kernel
theorem dL_statement_63 : decode cL_statement 63 = .ok (.iconst 2, 1) := by decide +kernel
theorem dL_statement_64 : decode cL_statement 64 = .ok (.invokestatic 103, 3) := by decide +kernel
theorem dL_statement_74 : decode cL_statement 74 = .ok (.aload_n 1, 1) := by decide +kernel
theorem dL_statement_75 : decode cL_statement 75 = .ok (.iconst 0, 1) := by decide +kernel
theorem dL_statement_76 : decode cL_statement 76 = .ok (.iaload, 1) := by decide +kernel
theorem dL_statement_77 : decode cL_statement 77 = .ok (.ifCond .ne 57, 3) := by decide +kernel
theorem dL_statement_134 : decode cL_statement 134 = .ok (.aload_n 1, 1) := by decide +kernel
theorem dL_statement_135 : decode cL_statement 135 = .ok (.areturn, 1) := by decide +kernel
theorem dL_statement_80 : decode cL_statement 80 = .ok (.aload_n 1, 1) := by decide +kernel
theorem dL_statement_81 : decode cL_statement 81 = .ok (.iconst 4, 1) := by decide +kernel
theorem dL_statement_82 : decode cL_statement 82 = .ok (.aload_n 0, 1) := by decide +kernel
theorem dL_statement_83 : decode cL_statement 83 = .ok (.iconst 3, 1) := by decide +kernel
theorem dL_statement_84 : decode cL_statement 84 = .ok (.invokestatic 103, 3) := by decide +kernel
theorem dL_statement_87 : decode cL_statement 87 = .ok (.iconst 1, 1) := by decide +kernel
theorem dL_statement_88 : decode cL_statement 88 = .ok (.isub, 1) := by decide +kernel
theorem dL_statement_89 : decode cL_statement 89 = .ok (.iastore, 1) := by decide +kernel
theorem dL_statement_90 : decode cL_statement 90 = .ok (.aload_n 1, 1) := by decide +kernel
theorem dL_statement_91 : decode cL_statement 91 = .ok (.iconst 5, 1) := by decide +kernel
theorem dL_statement_92 : decode cL_statement 92 = .ok (.aload_n 0, 1) := by decide +kernel
theorem dL_statement_93 : decode cL_statement 93 = .ok (.iconst 4, 1) := by decide +kernel
theorem dL_statement_94 : decode cL_statement 94 = .ok (.invokestatic 103, 3) := by decide +kernel
theorem dL_statement_97 : decode cL_statement 97 = .ok (.iconst 1, 1) := by decide +kernel
theorem dL_statement_98 : decode cL_statement 98 = .ok (.isub, 1) := by decide +kernel
theorem dL_statement_99 : decode cL_statement 99 = .ok (.iastore, 1) := by decide +kernel
theorem dL_statement_100 : decode cL_statement 100 = .ok (.aload_n 1, 1) := by decide +kernel
theorem dL_statement_101 : decode cL_statement 101 = .ok (.bipush 6, 2) := by decide +kernel
theorem dL_statement_103 : decode cL_statement 103 = .ok (.iconst 1, 1) := by decide +kernel
theorem dL_statement_104 : decode cL_statement 104 = .ok (.aload_n 0, 1) := by decide +kernel
theorem dL_statement_105 : decode cL_statement 105 = .ok (.bipush 50, 2) := by decide +kernel
theorem dL_statement_107 : decode cL_statement 107 = .ok (.invokestatic 103, 3) := by decide +kernel
theorem dL_statement_110 : decode cL_statement 110 = .ok (.iadd, 1) := by decide +kernel
theorem dL_statement_111 : decode cL_statement 111 = .ok (.iastore, 1) := by decide +kernel
theorem dL_statement_112 : decode cL_statement 112 = .ok (.aload_n 1, 1) := by decide +kernel
theorem dL_statement_113 : decode cL_statement 113 = .ok (.bipush 7, 2) := by decide +kernel
theorem dL_statement_115 : decode cL_statement 115 = .ok (.aload_n 0, 1) := by decide +kernel
theorem dL_statement_116 : decode cL_statement 116 = .ok (.iconst 4, 1) := by decide +kernel
theorem dL_statement_117 : decode cL_statement 117 = .ok (.invokestatic 103, 3) := by decide +kernel
theorem dL_statement_120 : decode cL_statement 120 = .ok (.iconst 1, 1) := by decide +kernel
theorem dL_statement_121 : decode cL_statement 121 = .ok (.isub, 1) := by decide +kernel
theorem dL_statement_122 : decode cL_statement 122 = .ok (.iastore, 1) := by decide +kernel
theorem dL_statement_123 : decode cL_statement 123 = .ok (.aload_n 1, 1) := by decide +kernel
theorem dL_statement_124 : decode cL_statement 124 = .ok (.bipush 8, 2) := by decide +kernel
theorem dL_statement_126 : decode cL_statement 126 = .ok (.iconst 2, 1) := by decide +kernel
theorem dL_statement_127 : decode cL_statement 127 = .ok (.aload_n 0, 1) := by decide +kernel
theorem dL_statement_128 : decode cL_statement 128 = .ok (.iconst 5, 1) := by decide +kernel
theorem dL_statement_129 : decode cL_statement 129 = .ok (.invokestatic 103, 3) := by decide +kernel
theorem dL_statement_132 : decode cL_statement 132 = .ok (.iadd, 1) := by decide +kernel
theorem dL_statement_133 : decode cL_statement 133 = .ok (.iastore, 1) := by decide +kernel
theorem dL_statement_67 : decode cL_statement 67 = .ok (.ifCond .ne 7, 3) := by decide +kernel
theorem dL_statement_70 : decode cL_statement 70 = .ok (.aload_n 1, 1) := by decide +kernel
theorem dL_statement_71 : decode cL_statement 71 = .ok (.iconst 0, 1) := by decide +kernel
theorem dL_statement_72 : decode cL_statement 72 = .ok (.iconst 0, 1) := by decide +kernel
theorem dL_statement_73 : decode cL_statement 73 = .ok (.iastore, 1) := by decide +kernel

set_option maxHeartbeats 8000000 in
set_option maxRecDepth 100000 in
theorem c_L_statement (l : Launch) (hlf : l.stackTraces = false) (dC : Nat → ClassId) (dI : Nat → Nat → Nat) (g : Nat → ClassId) (a_r_ n_r_ : Nat) (r_ : Nat → Int32) (Q : Nat → (Nat → Int32) → (Nat → Int32) → Prop) (hw : wp_L_statement n_r_ r_ Q) (sz : Nat) : Met l yL_statement wqL_statement ({ frames := 2, cells := 1, slots := 9, locals := 41 }) (va_Pc [.ref a_r_] (PG (dC, dI) g [(a_r_, .inl (g 0, n_r_, .inl r_))] sz)) (va_Qq (fun (r : Option Nat) (u : (Nat → Int32) × Nat × Nat × (Nat → Int32) × Unit) => r = some u.2.1 ∧ (Q u.2.2.1 u.2.2.2.1 u.1)) (fun (u : (Nat → Int32) × Nat × Nat × (Nat → Int32) × Unit) t9 => va_P (dC, dI) vwCl [(a_r_, .inl (g 0, n_r_, .inl u.1)), (u.2.1, .inl (g 0, u.2.2.1, .inl u.2.2.2.1))] t9.heap ∧ va_D (va_A [(a_r_, .inl (g 0, n_r_, .inl r_))] sz) [(a_r_, .inl (g 0, n_r_, .inl u.1)), (u.2.1, .inl (g 0, u.2.2.1, .inl u.2.2.2.1))]) (va_A [(a_r_, .inl (g 0, n_r_, .inl r_))] sz)) 1 9 (va_A [(a_r_, .inl (g 0, n_r_, .inl r_))] sz) := by
  refine Met.ofW (cc := cL_statement) (maxL := 2) (ret := (some (.array .int))) (by decide) rfl ?_
  intro p e s m args below meth c s₁ B hml hv
  obtain ⟨rfl, hsz, hP, hK, hD0, hG⟩ := hv
  have hx := B.exec
  have hb := B.bytes
  have hr := B.returns
  have hts := atoms_spec (ws := wqL_statement) B.pre
  have hown : s.vm.findClass RL = some m.cls := findClass_of_methodNamed B.named
  have hlocks := B.notSynchronized
  subst hsz
  have hD := hD0.self (sz := s.heap.size)
  generalize hAe : va_A [(a_r_, .inl (g 0, n_r_, .inl r_))] s.heap.size = A at hD hG ⊢
  have hA : ∀ q : Nat, s.heap.size ≤ q → A q := fun q h => by rw [← hAe]; exact Or.inr h
  have hS : va_S A s.heap s.heap [] := va_S.rf
  have hrc : (headSpec wqL_statement ({ frames := 2, cells := 1, slots := 9, locals := 41 })).room.cells = 1 := rfl
  have hrs : (headSpec wqL_statement ({ frames := 2, cells := 1, slots := 9, locals := 41 })).room.slots = 9 := rfl
  have hl := lv_entry ([.ref a_r_]) (n := 2) (Nat.le_of_ble_eq_true rfl)
  rw [lg_entry_eq]
  generalize (lg_sl ([.ref a_r_]) ++ List.replicate (2 - (lg_sl ([.ref a_r_])).length) Slot.unset).toArray = ls at hl ⊢
  have hl : lv_has ls 2 [(0, .ref a_r_)] := hl
  unfold wp_L_statement at hw
  have hnaint := hts (Cond.arrayClass .int) (aw_l aw_1_57)
  refine lv_bipush (v := 9) hx hb dL_statement_0 (by decide) ?_
  refine va_newa (atype := .int) (a0 := (9, .inl (fun _ => 0))) hx hb hnaint rfl hK hP hD hS hA (fun _ => rfl) (by decide) (N' := 9) (by decide) (Nat.le_of_ble_eq_true rfl) (by rw [hrc]; omega) (by rw [hrs]; omega) dL_statement_2 (fun a_q_1 cA_3 H_2 hK9 hP hD hS => ?_)
  obtain rfl : g 0 = cA_3 := K_one hK9 0 5 rfl rfl
  obtain ⟨hP, hD⟩ := seg_join [[(a_r_, .inl (g 0, n_r_, .inl r_))]] [[(a_q_1, .inl (g 0, 9, .inl (fun _ => 0)))]] [[(a_r_, .inl (g 0, n_r_, .inl r_))], [(a_q_1, .inl (g 0, 9, .inl (fun _ => 0)))]] 2 [0, 1] rfl rfl (by decide) hP hD
  have hP : va_P (dC, dI) vwCl [(a_r_, .inl (g 0, n_r_, .inl r_)), (a_q_1, .inl (g 0, 9, .inl (fun _ => 0)))] H_2 := hP
  have hD : va_D A [(a_r_, .inl (g 0, n_r_, .inl r_)), (a_q_1, .inl (g 0, 9, .inl (fun _ => 0)))] := hD
  refine W.widen (k := 1) (n := 9) (by omega) (by omega) ?_
  refine lv_dup hx hb dL_statement_4 rfl ?_
  refine lv_iconst (v := 0) hx hb dL_statement_5 (by decide) ?_
  refine lv_aload_n hx hb dL_statement_6 rfl (lv_at hl 0 rfl) ?_
  refine lv_bipush (v := 9) hx hb dL_statement_7 (by decide) ?_
  obtain ⟨hPs, hDs⟩ := seg_call (segs := [[(a_r_, .inl (g 0, n_r_, .inl r_))], [(a_q_1, .inl (g 0, 9, .inl (fun _ => 0)))]]) [[(a_q_1, .inl (g 0, 9, .inl (fun _ => 0)))]] [[(a_r_, .inl (g 0, n_r_, .inl r_))]] 2 [1, 0] rfl rfl (by decide) hP hD
  have hPc : va_P (dC, dI) vwCl [(a_r_, .inl (g 0, n_r_, .inl r_))] H_2 := P_r hPs
  have hDc : va_D A [(a_r_, .inl (g 0, n_r_, .inl r_))] := D_r hDs
  have hFc : ∀ q, va_A [(a_r_, .inl (g 0, n_r_, .inl r_))] H_2.size q → A q := A_all hDc hA hS.1
  refine va_calli (va_runS (As := [.ref a_r_, .int 9]) (rest := [.int 0, .ref a_q_1, .ref a_q_1]) ⟨hx, hb, hml, hown, hts⟩ (c_L_draw l hlf dC dI g (a_r_ := a_r_) (n_r_ := n_r_) (r_ := r_) (many := 9) (hw := hw) (sz := H_2.size)) (va_cwS 2 hts (gqS aw_2_215 aw_2_216 aw_1_0 aw_2_217) rfl rfl rfl (by decide +kernel) ⟨Nat.le_of_ble_eq_true rfl, Nat.le_of_ble_eq_true rfl⟩) ⟨PG_blind, PG_call hK hG hS hPc hDc hFc⟩ rfl rfl hl.1 rfl (lv_room (Nat.le_of_ble_eq_true rfl)) dL_statement_9 ⟨by rw [hrc]; omega, by rw [hrs]; omega⟩) hS (fun q _ h => hFc q h) hFc (fun r_4 u_4 t_4 H_4 L_4 ht_4 hvm_4 hw_4 hB_4 hz_4 hk_4 hS => ?_)
  obtain ⟨r__5, u_4⟩ := u_4
  have hw := hw_4
  rw [ht_4] at hB_4
  obtain ⟨hP1, hD1⟩ := hB_4
  obtain ⟨hP, hD⟩ := join_r hPs hDs hk_4 hFc hP1 hD1
  obtain ⟨hP, hD⟩ := seg_join [[(a_q_1, .inl (g 0, 9, .inl (fun _ => 0)))]] [[(a_r_, .inl (g 0, n_r_, .inl r__5))]] [[(a_r_, .inl (g 0, n_r_, .inl r__5))], [(a_q_1, .inl (g 0, 9, .inl (fun _ => 0)))]] 2 [1, 0] rfl rfl (by decide) hP hD
  have hP : va_P (dC, dI) vwCl [(a_r_, .inl (g 0, n_r_, .inl r__5)), (a_q_1, .inl (g 0, 9, .inl (fun _ => 0)))] H_4 := hP
  have hD : va_D A [(a_r_, .inl (g 0, n_r_, .inl r__5)), (a_q_1, .inl (g 0, 9, .inl (fun _ => 0)))] := hD
  refine W.widen (k := 1) (n := 9) (by omega) (by omega) ?_
  refine va_iast hx hb hK hP hD hS 1 0 rfl rfl (by unfold vp_in; decide) dL_statement_12 (fun H_6 L_7 hP hD hS => ?_)
  have hP : va_P (dC, dI) vwCl [(a_r_, .inl (g 0, n_r_, .inl r__5)), (a_q_1, .inl (g 0, 9, .inl (upd (fun _ => 0) (0 : Int32).toNatClampNeg r_4)))] H_6 := hP
  have hD : va_D A [(a_r_, .inl (g 0, n_r_, .inl r__5)), (a_q_1, .inl (g 0, 9, .inl (upd (fun _ => 0) (0 : Int32).toNatClampNeg r_4)))] := hD
  refine lv_dup hx hb dL_statement_13 rfl ?_
  refine lv_iconst (v := 1) hx hb dL_statement_14 (by decide) ?_
  refine lv_aload_n hx hb dL_statement_15 rfl (lv_at hl 0 rfl) ?_
  refine lv_iconst (v := 5) hx hb dL_statement_16 (by decide) ?_
  obtain ⟨hPs, hDs⟩ := seg_call (segs := [[(a_r_, .inl (g 0, n_r_, .inl r__5))], [(a_q_1, .inl (g 0, 9, .inl (upd (fun _ => 0) (0 : Int32).toNatClampNeg r_4)))]]) [[(a_q_1, .inl (g 0, 9, .inl (upd (fun _ => 0) (0 : Int32).toNatClampNeg r_4)))]] [[(a_r_, .inl (g 0, n_r_, .inl r__5))]] 2 [1, 0] rfl rfl (by decide) hP hD
  have hPc : va_P (dC, dI) vwCl [(a_r_, .inl (g 0, n_r_, .inl r__5))] H_6 := P_r hPs
  have hDc : va_D A [(a_r_, .inl (g 0, n_r_, .inl r__5))] := D_r hDs
  have hFc : ∀ q, va_A [(a_r_, .inl (g 0, n_r_, .inl r__5))] H_6.size q → A q := A_all hDc hA hS.1
  refine va_calli (va_runS (As := [.ref a_r_, .int 5]) (rest := [.int 1, .ref a_q_1, .ref a_q_1]) ⟨hx, hb, hml, hown, hts⟩ (c_L_draw l hlf dC dI g (a_r_ := a_r_) (n_r_ := n_r_) (r_ := r__5) (many := 5) (hw := hw) (sz := H_6.size)) (va_cwS 2 hts (gqS aw_2_215 aw_2_216 aw_1_0 aw_2_217) rfl rfl rfl (by decide +kernel) ⟨Nat.le_of_ble_eq_true rfl, Nat.le_of_ble_eq_true rfl⟩) ⟨PG_blind, PG_call hK hG hS hPc hDc hFc⟩ rfl rfl hl.1 rfl (lv_room (Nat.le_of_ble_eq_true rfl)) dL_statement_17 ⟨by rw [hrc]; omega, by rw [hrs]; omega⟩) hS (fun q _ h => hFc q h) hFc (fun r_8 u_8 t_8 H_8 L_8 ht_8 hvm_8 hw_8 hB_8 hz_8 hk_8 hS => ?_)
  obtain ⟨r__9, u_8⟩ := u_8
  have hw := hw_8
  rw [ht_8] at hB_8
  obtain ⟨hP1, hD1⟩ := hB_8
  obtain ⟨hP, hD⟩ := join_r hPs hDs hk_8 hFc hP1 hD1
  obtain ⟨hP, hD⟩ := seg_join [[(a_q_1, .inl (g 0, 9, .inl (upd (fun _ => 0) (0 : Int32).toNatClampNeg r_4)))]] [[(a_r_, .inl (g 0, n_r_, .inl r__9))]] [[(a_r_, .inl (g 0, n_r_, .inl r__9))], [(a_q_1, .inl (g 0, 9, .inl (upd (fun _ => 0) (0 : Int32).toNatClampNeg r_4)))]] 2 [1, 0] rfl rfl (by decide) hP hD
  have hP : va_P (dC, dI) vwCl [(a_r_, .inl (g 0, n_r_, .inl r__9)), (a_q_1, .inl (g 0, 9, .inl (upd (fun _ => 0) (0 : Int32).toNatClampNeg r_4)))] H_8 := hP
  have hD : va_D A [(a_r_, .inl (g 0, n_r_, .inl r__9)), (a_q_1, .inl (g 0, 9, .inl (upd (fun _ => 0) (0 : Int32).toNatClampNeg r_4)))] := hD
  refine W.widen (k := 1) (n := 9) (by omega) (by omega) ?_
  refine va_iast hx hb hK hP hD hS 1 0 rfl rfl (by unfold vp_in; decide) dL_statement_20 (fun H_10 L_11 hP hD hS => ?_)
  have hP : va_P (dC, dI) vwCl [(a_r_, .inl (g 0, n_r_, .inl r__9)), (a_q_1, .inl (g 0, 9, .inl (upd (upd (fun _ => 0) (0 : Int32).toNatClampNeg r_4) (1 : Int32).toNatClampNeg r_8)))] H_10 := hP
  have hD : va_D A [(a_r_, .inl (g 0, n_r_, .inl r__9)), (a_q_1, .inl (g 0, 9, .inl (upd (upd (fun _ => 0) (0 : Int32).toNatClampNeg r_4) (1 : Int32).toNatClampNeg r_8)))] := hD
  refine lv_dup hx hb dL_statement_21 rfl ?_
  refine lv_iconst (v := 2) hx hb dL_statement_22 (by decide) ?_
  refine lv_aload_n hx hb dL_statement_23 rfl (lv_at hl 0 rfl) ?_
  refine lv_iconst (v := 5) hx hb dL_statement_24 (by decide) ?_
  obtain ⟨hPs, hDs⟩ := seg_call (segs := [[(a_r_, .inl (g 0, n_r_, .inl r__9))], [(a_q_1, .inl (g 0, 9, .inl (upd (upd (fun _ => 0) (0 : Int32).toNatClampNeg r_4) (1 : Int32).toNatClampNeg r_8)))]]) [[(a_q_1, .inl (g 0, 9, .inl (upd (upd (fun _ => 0) (0 : Int32).toNatClampNeg r_4) (1 : Int32).toNatClampNeg r_8)))]] [[(a_r_, .inl (g 0, n_r_, .inl r__9))]] 2 [1, 0] rfl rfl (by decide) hP hD
  have hPc : va_P (dC, dI) vwCl [(a_r_, .inl (g 0, n_r_, .inl r__9))] H_10 := P_r hPs
  have hDc : va_D A [(a_r_, .inl (g 0, n_r_, .inl r__9))] := D_r hDs
  have hFc : ∀ q, va_A [(a_r_, .inl (g 0, n_r_, .inl r__9))] H_10.size q → A q := A_all hDc hA hS.1
  refine va_calli (va_runS (As := [.ref a_r_, .int 5]) (rest := [.int 2, .ref a_q_1, .ref a_q_1]) ⟨hx, hb, hml, hown, hts⟩ (c_L_draw l hlf dC dI g (a_r_ := a_r_) (n_r_ := n_r_) (r_ := r__9) (many := 5) (hw := hw) (sz := H_10.size)) (va_cwS 2 hts (gqS aw_2_215 aw_2_216 aw_1_0 aw_2_217) rfl rfl rfl (by decide +kernel) ⟨Nat.le_of_ble_eq_true rfl, Nat.le_of_ble_eq_true rfl⟩) ⟨PG_blind, PG_call hK hG hS hPc hDc hFc⟩ rfl rfl hl.1 rfl (lv_room (Nat.le_of_ble_eq_true rfl)) dL_statement_25 ⟨by rw [hrc]; omega, by rw [hrs]; omega⟩) hS (fun q _ h => hFc q h) hFc (fun r_12 u_12 t_12 H_12 L_12 ht_12 hvm_12 hw_12 hB_12 hz_12 hk_12 hS => ?_)
  obtain ⟨r__13, u_12⟩ := u_12
  have hw := hw_12
  rw [ht_12] at hB_12
  obtain ⟨hP1, hD1⟩ := hB_12
  obtain ⟨hP, hD⟩ := join_r hPs hDs hk_12 hFc hP1 hD1
  obtain ⟨hP, hD⟩ := seg_join [[(a_q_1, .inl (g 0, 9, .inl (upd (upd (fun _ => 0) (0 : Int32).toNatClampNeg r_4) (1 : Int32).toNatClampNeg r_8)))]] [[(a_r_, .inl (g 0, n_r_, .inl r__13))]] [[(a_r_, .inl (g 0, n_r_, .inl r__13))], [(a_q_1, .inl (g 0, 9, .inl (upd (upd (fun _ => 0) (0 : Int32).toNatClampNeg r_4) (1 : Int32).toNatClampNeg r_8)))]] 2 [1, 0] rfl rfl (by decide) hP hD
  have hP : va_P (dC, dI) vwCl [(a_r_, .inl (g 0, n_r_, .inl r__13)), (a_q_1, .inl (g 0, 9, .inl (upd (upd (fun _ => 0) (0 : Int32).toNatClampNeg r_4) (1 : Int32).toNatClampNeg r_8)))] H_12 := hP
  have hD : va_D A [(a_r_, .inl (g 0, n_r_, .inl r__13)), (a_q_1, .inl (g 0, 9, .inl (upd (upd (fun _ => 0) (0 : Int32).toNatClampNeg r_4) (1 : Int32).toNatClampNeg r_8)))] := hD
  refine W.widen (k := 1) (n := 9) (by omega) (by omega) ?_
  refine va_iast hx hb hK hP hD hS 1 0 rfl rfl (by unfold vp_in; decide) dL_statement_28 (fun H_14 L_15 hP hD hS => ?_)
  have hP : va_P (dC, dI) vwCl [(a_r_, .inl (g 0, n_r_, .inl r__13)), (a_q_1, .inl (g 0, 9, .inl (upd (upd (upd (fun _ => 0) (0 : Int32).toNatClampNeg r_4) (1 : Int32).toNatClampNeg r_8) (2 : Int32).toNatClampNeg r_12)))] H_14 := hP
  have hD : va_D A [(a_r_, .inl (g 0, n_r_, .inl r__13)), (a_q_1, .inl (g 0, 9, .inl (upd (upd (upd (fun _ => 0) (0 : Int32).toNatClampNeg r_4) (1 : Int32).toNatClampNeg r_8) (2 : Int32).toNatClampNeg r_12)))] := hD
  refine lv_dup hx hb dL_statement_29 rfl ?_
  refine lv_iconst (v := 3) hx hb dL_statement_30 (by decide) ?_
  refine lv_aload_n hx hb dL_statement_31 rfl (lv_at hl 0 rfl) ?_
  refine lv_bipush (v := 8) hx hb dL_statement_32 (by decide) ?_
  obtain ⟨hPs, hDs⟩ := seg_call (segs := [[(a_r_, .inl (g 0, n_r_, .inl r__13))], [(a_q_1, .inl (g 0, 9, .inl (upd (upd (upd (fun _ => 0) (0 : Int32).toNatClampNeg r_4) (1 : Int32).toNatClampNeg r_8) (2 : Int32).toNatClampNeg r_12)))]]) [[(a_q_1, .inl (g 0, 9, .inl (upd (upd (upd (fun _ => 0) (0 : Int32).toNatClampNeg r_4) (1 : Int32).toNatClampNeg r_8) (2 : Int32).toNatClampNeg r_12)))]] [[(a_r_, .inl (g 0, n_r_, .inl r__13))]] 2 [1, 0] rfl rfl (by decide) hP hD
  have hPc : va_P (dC, dI) vwCl [(a_r_, .inl (g 0, n_r_, .inl r__13))] H_14 := P_r hPs
  have hDc : va_D A [(a_r_, .inl (g 0, n_r_, .inl r__13))] := D_r hDs
  have hFc : ∀ q, va_A [(a_r_, .inl (g 0, n_r_, .inl r__13))] H_14.size q → A q := A_all hDc hA hS.1
  refine va_calli (va_runS (As := [.ref a_r_, .int 8]) (rest := [.int 3, .ref a_q_1, .ref a_q_1]) ⟨hx, hb, hml, hown, hts⟩ (c_L_draw l hlf dC dI g (a_r_ := a_r_) (n_r_ := n_r_) (r_ := r__13) (many := 8) (hw := hw) (sz := H_14.size)) (va_cwS 2 hts (gqS aw_2_215 aw_2_216 aw_1_0 aw_2_217) rfl rfl rfl (by decide +kernel) ⟨Nat.le_of_ble_eq_true rfl, Nat.le_of_ble_eq_true rfl⟩) ⟨PG_blind, PG_call hK hG hS hPc hDc hFc⟩ rfl rfl hl.1 rfl (lv_room (Nat.le_of_ble_eq_true rfl)) dL_statement_34 ⟨by rw [hrc]; omega, by rw [hrs]; omega⟩) hS (fun q _ h => hFc q h) hFc (fun r_16 u_16 t_16 H_16 L_16 ht_16 hvm_16 hw_16 hB_16 hz_16 hk_16 hS => ?_)
  obtain ⟨r__17, u_16⟩ := u_16
  have hw := hw_16
  rw [ht_16] at hB_16
  obtain ⟨hP1, hD1⟩ := hB_16
  obtain ⟨hP, hD⟩ := join_r hPs hDs hk_16 hFc hP1 hD1
  obtain ⟨hP, hD⟩ := seg_join [[(a_q_1, .inl (g 0, 9, .inl (upd (upd (upd (fun _ => 0) (0 : Int32).toNatClampNeg r_4) (1 : Int32).toNatClampNeg r_8) (2 : Int32).toNatClampNeg r_12)))]] [[(a_r_, .inl (g 0, n_r_, .inl r__17))]] [[(a_r_, .inl (g 0, n_r_, .inl r__17))], [(a_q_1, .inl (g 0, 9, .inl (upd (upd (upd (fun _ => 0) (0 : Int32).toNatClampNeg r_4) (1 : Int32).toNatClampNeg r_8) (2 : Int32).toNatClampNeg r_12)))]] 2 [1, 0] rfl rfl (by decide) hP hD
  have hP : va_P (dC, dI) vwCl [(a_r_, .inl (g 0, n_r_, .inl r__17)), (a_q_1, .inl (g 0, 9, .inl (upd (upd (upd (fun _ => 0) (0 : Int32).toNatClampNeg r_4) (1 : Int32).toNatClampNeg r_8) (2 : Int32).toNatClampNeg r_12)))] H_16 := hP
  have hD : va_D A [(a_r_, .inl (g 0, n_r_, .inl r__17)), (a_q_1, .inl (g 0, 9, .inl (upd (upd (upd (fun _ => 0) (0 : Int32).toNatClampNeg r_4) (1 : Int32).toNatClampNeg r_8) (2 : Int32).toNatClampNeg r_12)))] := hD
  refine W.widen (k := 1) (n := 9) (by omega) (by omega) ?_
  refine va_iast hx hb hK hP hD hS 1 0 rfl rfl (by unfold vp_in; decide) dL_statement_37 (fun H_18 L_19 hP hD hS => ?_)
  have hP : va_P (dC, dI) vwCl [(a_r_, .inl (g 0, n_r_, .inl r__17)), (a_q_1, .inl (g 0, 9, .inl (upd (upd (upd (upd (fun _ => 0) (0 : Int32).toNatClampNeg r_4) (1 : Int32).toNatClampNeg r_8) (2 : Int32).toNatClampNeg r_12) (3 : Int32).toNatClampNeg r_16)))] H_18 := hP
  have hD : va_D A [(a_r_, .inl (g 0, n_r_, .inl r__17)), (a_q_1, .inl (g 0, 9, .inl (upd (upd (upd (upd (fun _ => 0) (0 : Int32).toNatClampNeg r_4) (1 : Int32).toNatClampNeg r_8) (2 : Int32).toNatClampNeg r_12) (3 : Int32).toNatClampNeg r_16)))] := hD
  refine lv_dup hx hb dL_statement_38 rfl ?_
  refine lv_iconst (v := 4) hx hb dL_statement_39 (by decide) ?_
  refine lv_iconst (v := (-1)) hx hb dL_statement_40 (by decide) ?_
  refine va_iast hx hb hK hP hD hS 1 0 rfl rfl (by unfold vp_in; decide) dL_statement_41 (fun H_20 L_21 hP hD hS => ?_)
  have hP : va_P (dC, dI) vwCl [(a_r_, .inl (g 0, n_r_, .inl r__17)), (a_q_1, .inl (g 0, 9, .inl (upd (upd (upd (upd (upd (fun _ => 0) (0 : Int32).toNatClampNeg r_4) (1 : Int32).toNatClampNeg r_8) (2 : Int32).toNatClampNeg r_12) (3 : Int32).toNatClampNeg r_16) (4 : Int32).toNatClampNeg (-1))))] H_20 := hP
  have hD : va_D A [(a_r_, .inl (g 0, n_r_, .inl r__17)), (a_q_1, .inl (g 0, 9, .inl (upd (upd (upd (upd (upd (fun _ => 0) (0 : Int32).toNatClampNeg r_4) (1 : Int32).toNatClampNeg r_8) (2 : Int32).toNatClampNeg r_12) (3 : Int32).toNatClampNeg r_16) (4 : Int32).toNatClampNeg (-1))))] := hD
  refine lv_dup hx hb dL_statement_42 rfl ?_
  refine lv_iconst (v := 5) hx hb dL_statement_43 (by decide) ?_
  refine lv_iconst (v := (-1)) hx hb dL_statement_44 (by decide) ?_
  refine va_iast hx hb hK hP hD hS 1 0 rfl rfl (by unfold vp_in; decide) dL_statement_45 (fun H_22 L_23 hP hD hS => ?_)
  have hP : va_P (dC, dI) vwCl [(a_r_, .inl (g 0, n_r_, .inl r__17)), (a_q_1, .inl (g 0, 9, .inl (upd (upd (upd (upd (upd (upd (fun _ => 0) (0 : Int32).toNatClampNeg r_4) (1 : Int32).toNatClampNeg r_8) (2 : Int32).toNatClampNeg r_12) (3 : Int32).toNatClampNeg r_16) (4 : Int32).toNatClampNeg (-1)) (5 : Int32).toNatClampNeg (-1))))] H_22 := hP
  have hD : va_D A [(a_r_, .inl (g 0, n_r_, .inl r__17)), (a_q_1, .inl (g 0, 9, .inl (upd (upd (upd (upd (upd (upd (fun _ => 0) (0 : Int32).toNatClampNeg r_4) (1 : Int32).toNatClampNeg r_8) (2 : Int32).toNatClampNeg r_12) (3 : Int32).toNatClampNeg r_16) (4 : Int32).toNatClampNeg (-1)) (5 : Int32).toNatClampNeg (-1))))] := hD
  refine lv_dup hx hb dL_statement_46 rfl ?_
  refine lv_bipush (v := 6) hx hb dL_statement_47 (by decide) ?_
  refine lv_iconst (v := (-1)) hx hb dL_statement_49 (by decide) ?_
  refine va_iast hx hb hK hP hD hS 1 0 rfl rfl (by unfold vp_in; decide) dL_statement_50 (fun H_24 L_25 hP hD hS => ?_)
  have hP : va_P (dC, dI) vwCl [(a_r_, .inl (g 0, n_r_, .inl r__17)), (a_q_1, .inl (g 0, 9, .inl (upd (upd (upd (upd (upd (upd (upd (fun _ => 0) (0 : Int32).toNatClampNeg r_4) (1 : Int32).toNatClampNeg r_8) (2 : Int32).toNatClampNeg r_12) (3 : Int32).toNatClampNeg r_16) (4 : Int32).toNatClampNeg (-1)) (5 : Int32).toNatClampNeg (-1)) (6 : Int32).toNatClampNeg (-1))))] H_24 := hP
  have hD : va_D A [(a_r_, .inl (g 0, n_r_, .inl r__17)), (a_q_1, .inl (g 0, 9, .inl (upd (upd (upd (upd (upd (upd (upd (fun _ => 0) (0 : Int32).toNatClampNeg r_4) (1 : Int32).toNatClampNeg r_8) (2 : Int32).toNatClampNeg r_12) (3 : Int32).toNatClampNeg r_16) (4 : Int32).toNatClampNeg (-1)) (5 : Int32).toNatClampNeg (-1)) (6 : Int32).toNatClampNeg (-1))))] := hD
  refine lv_dup hx hb dL_statement_51 rfl ?_
  refine lv_bipush (v := 7) hx hb dL_statement_52 (by decide) ?_
  refine lv_iconst (v := (-1)) hx hb dL_statement_54 (by decide) ?_
  refine va_iast hx hb hK hP hD hS 1 0 rfl rfl (by unfold vp_in; decide) dL_statement_55 (fun H_26 L_27 hP hD hS => ?_)
  have hP : va_P (dC, dI) vwCl [(a_r_, .inl (g 0, n_r_, .inl r__17)), (a_q_1, .inl (g 0, 9, .inl (upd (upd (upd (upd (upd (upd (upd (upd (fun _ => 0) (0 : Int32).toNatClampNeg r_4) (1 : Int32).toNatClampNeg r_8) (2 : Int32).toNatClampNeg r_12) (3 : Int32).toNatClampNeg r_16) (4 : Int32).toNatClampNeg (-1)) (5 : Int32).toNatClampNeg (-1)) (6 : Int32).toNatClampNeg (-1)) (7 : Int32).toNatClampNeg (-1))))] H_26 := hP
  have hD : va_D A [(a_r_, .inl (g 0, n_r_, .inl r__17)), (a_q_1, .inl (g 0, 9, .inl (upd (upd (upd (upd (upd (upd (upd (upd (fun _ => 0) (0 : Int32).toNatClampNeg r_4) (1 : Int32).toNatClampNeg r_8) (2 : Int32).toNatClampNeg r_12) (3 : Int32).toNatClampNeg r_16) (4 : Int32).toNatClampNeg (-1)) (5 : Int32).toNatClampNeg (-1)) (6 : Int32).toNatClampNeg (-1)) (7 : Int32).toNatClampNeg (-1))))] := hD
  refine lv_dup hx hb dL_statement_56 rfl ?_
  refine lv_bipush (v := 8) hx hb dL_statement_57 (by decide) ?_
  refine lv_iconst (v := (-1)) hx hb dL_statement_59 (by decide) ?_
  refine va_iast hx hb hK hP hD hS 1 0 rfl rfl (by unfold vp_in; decide) dL_statement_60 (fun H_28 L_29 hP hD hS => ?_)
  have hP : va_P (dC, dI) vwCl [(a_r_, .inl (g 0, n_r_, .inl r__17)), (a_q_1, .inl (g 0, 9, .inl (upd (upd (upd (upd (upd (upd (upd (upd (upd (fun _ => 0) (0 : Int32).toNatClampNeg r_4) (1 : Int32).toNatClampNeg r_8) (2 : Int32).toNatClampNeg r_12) (3 : Int32).toNatClampNeg r_16) (4 : Int32).toNatClampNeg (-1)) (5 : Int32).toNatClampNeg (-1)) (6 : Int32).toNatClampNeg (-1)) (7 : Int32).toNatClampNeg (-1)) (8 : Int32).toNatClampNeg (-1))))] H_28 := hP
  have hD : va_D A [(a_r_, .inl (g 0, n_r_, .inl r__17)), (a_q_1, .inl (g 0, 9, .inl (upd (upd (upd (upd (upd (upd (upd (upd (upd (fun _ => 0) (0 : Int32).toNatClampNeg r_4) (1 : Int32).toNatClampNeg r_8) (2 : Int32).toNatClampNeg r_12) (3 : Int32).toNatClampNeg r_16) (4 : Int32).toNatClampNeg (-1)) (5 : Int32).toNatClampNeg (-1)) (6 : Int32).toNatClampNeg (-1)) (7 : Int32).toNatClampNeg (-1)) (8 : Int32).toNatClampNeg (-1))))] := hD
  refine lv_astore_n (lv' := [(1, .ref a_q_1), (0, .ref a_r_)]) hx hb dL_statement_61 rfl hl (by decide) rfl (fun ls hl => ?_)
  refine lv_aload_n hx hb dL_statement_62 rfl (lv_at hl 1 rfl) ?_
  refine lv_iconst (v := 2) hx hb dL_statement_63 (by decide) ?_
  obtain ⟨hPs, hDs⟩ := seg_call (segs := [[(a_r_, .inl (g 0, n_r_, .inl r__17))], [(a_q_1, .inl (g 0, 9, .inl (upd (upd (upd (upd (upd (upd (upd (upd (upd (fun _ => 0) (0 : Int32).toNatClampNeg r_4) (1 : Int32).toNatClampNeg r_8) (2 : Int32).toNatClampNeg r_12) (3 : Int32).toNatClampNeg r_16) (4 : Int32).toNatClampNeg (-1)) (5 : Int32).toNatClampNeg (-1)) (6 : Int32).toNatClampNeg (-1)) (7 : Int32).toNatClampNeg (-1)) (8 : Int32).toNatClampNeg (-1))))]]) [[(a_q_1, .inl (g 0, 9, .inl (upd (upd (upd (upd (upd (upd (upd (upd (upd (fun _ => 0) (0 : Int32).toNatClampNeg r_4) (1 : Int32).toNatClampNeg r_8) (2 : Int32).toNatClampNeg r_12) (3 : Int32).toNatClampNeg r_16) (4 : Int32).toNatClampNeg (-1)) (5 : Int32).toNatClampNeg (-1)) (6 : Int32).toNatClampNeg (-1)) (7 : Int32).toNatClampNeg (-1)) (8 : Int32).toNatClampNeg (-1))))]] [[(a_r_, .inl (g 0, n_r_, .inl r__17))]] 2 [1, 0] rfl rfl (by decide) hP hD
  have hPc : va_P (dC, dI) vwCl [(a_r_, .inl (g 0, n_r_, .inl r__17))] H_28 := P_r hPs
  have hDc : va_D A [(a_r_, .inl (g 0, n_r_, .inl r__17))] := D_r hDs
  have hFc : ∀ q, va_A [(a_r_, .inl (g 0, n_r_, .inl r__17))] H_28.size q → A q := A_all hDc hA hS.1
  refine va_calli (va_runS (As := [.ref a_r_, .int 2]) (rest := []) ⟨hx, hb, hml, hown, hts⟩ (c_L_draw l hlf dC dI g (a_r_ := a_r_) (n_r_ := n_r_) (r_ := r__17) (many := 2) (hw := hw) (sz := H_28.size)) (va_cwS 2 hts (gqS aw_2_215 aw_2_216 aw_1_0 aw_2_217) rfl rfl rfl (by decide +kernel) ⟨Nat.le_of_ble_eq_true rfl, Nat.le_of_ble_eq_true rfl⟩) ⟨PG_blind, PG_call hK hG hS hPc hDc hFc⟩ rfl rfl hl.1 rfl (lv_room (Nat.le_of_ble_eq_true rfl)) dL_statement_64 ⟨by rw [hrc]; omega, by rw [hrs]; omega⟩) hS (fun q _ h => hFc q h) hFc (fun r_30 u_30 t_30 H_30 L_30 ht_30 hvm_30 hw_30 hB_30 hz_30 hk_30 hS => ?_)
  obtain ⟨r__31, u_30⟩ := u_30
  have hw := hw_30
  rw [ht_30] at hB_30
  obtain ⟨hP1, hD1⟩ := hB_30
  obtain ⟨hP, hD⟩ := join_r hPs hDs hk_30 hFc hP1 hD1
  obtain ⟨hP, hD⟩ := seg_join [[(a_q_1, .inl (g 0, 9, .inl (upd (upd (upd (upd (upd (upd (upd (upd (upd (fun _ => 0) (0 : Int32).toNatClampNeg r_4) (1 : Int32).toNatClampNeg r_8) (2 : Int32).toNatClampNeg r_12) (3 : Int32).toNatClampNeg r_16) (4 : Int32).toNatClampNeg (-1)) (5 : Int32).toNatClampNeg (-1)) (6 : Int32).toNatClampNeg (-1)) (7 : Int32).toNatClampNeg (-1)) (8 : Int32).toNatClampNeg (-1))))]] [[(a_r_, .inl (g 0, n_r_, .inl r__31))]] [[(a_r_, .inl (g 0, n_r_, .inl r__31))], [(a_q_1, .inl (g 0, 9, .inl (upd (upd (upd (upd (upd (upd (upd (upd (upd (fun _ => 0) (0 : Int32).toNatClampNeg r_4) (1 : Int32).toNatClampNeg r_8) (2 : Int32).toNatClampNeg r_12) (3 : Int32).toNatClampNeg r_16) (4 : Int32).toNatClampNeg (-1)) (5 : Int32).toNatClampNeg (-1)) (6 : Int32).toNatClampNeg (-1)) (7 : Int32).toNatClampNeg (-1)) (8 : Int32).toNatClampNeg (-1))))]] 2 [1, 0] rfl rfl (by decide) hP hD
  have hP : va_P (dC, dI) vwCl [(a_r_, .inl (g 0, n_r_, .inl r__31)), (a_q_1, .inl (g 0, 9, .inl (upd (upd (upd (upd (upd (upd (upd (upd (upd (fun _ => 0) (0 : Int32).toNatClampNeg r_4) (1 : Int32).toNatClampNeg r_8) (2 : Int32).toNatClampNeg r_12) (3 : Int32).toNatClampNeg r_16) (4 : Int32).toNatClampNeg (-1)) (5 : Int32).toNatClampNeg (-1)) (6 : Int32).toNatClampNeg (-1)) (7 : Int32).toNatClampNeg (-1)) (8 : Int32).toNatClampNeg (-1))))] H_30 := hP
  have hD : va_D A [(a_r_, .inl (g 0, n_r_, .inl r__31)), (a_q_1, .inl (g 0, 9, .inl (upd (upd (upd (upd (upd (upd (upd (upd (upd (fun _ => 0) (0 : Int32).toNatClampNeg r_4) (1 : Int32).toNatClampNeg r_8) (2 : Int32).toNatClampNeg r_12) (3 : Int32).toNatClampNeg r_16) (4 : Int32).toNatClampNeg (-1)) (5 : Int32).toNatClampNeg (-1)) (6 : Int32).toNatClampNeg (-1)) (7 : Int32).toNatClampNeg (-1)) (8 : Int32).toNatClampNeg (-1))))] := hD
  refine W.widen (k := 1) (n := 9) (by omega) (by omega) ?_
  refine W_abs (fun QM hQM => ?_)
  have JN74 : ∀ (q2_32 : Nat → Int32) (H : Heap) (locs : List Loc), (wj_L_statement_74 n_r_ Q r__31) q2_32 → va_P (dC, dI) vwCl [(a_r_, .inl (g 0, n_r_, .inl r__31)), (a_q_1, .inl (g 0, 9, .inl q2_32))] H → va_D A [(a_r_, .inl (g 0, n_r_, .inl r__31)), (a_q_1, .inl (g 0, 9, .inl q2_32))] → va_S A s.heap H locs → ∀ (ls : Array Slot), lv_has ls 2 [(0, .ref a_r_), (1, .ref a_q_1)] → W p l e (headSpec wqL_statement ({ frames := 2, cells := 1, slots := 9, locals := 41 })).room s m ([.ref a_r_] : List Value).toArray below meth c H locs 1 9 QM (F0 m 74 ls []) := by
    intro q2_32 H locs hw hP hD hS ls hl
    refine lv_aload_n hx hb dL_statement_74 rfl (lv_at hl 1 rfl) ?_
    refine lv_iconst (v := 0) hx hb dL_statement_75 (by decide) ?_
    refine va_iald hx hb hK hP 1 0 rfl rfl (by unfold vp_in; decide) dL_statement_76 ?_
    refine lv_topi (fun x_33 ex_33 => ?_)
    have hw := hw x_33 ex_33
    refine lv_if_ne (tgt := 134) hx hb dL_statement_77 (by decide) (fun c_34 => ?_) (fun c_34 => ?_)
    · have hw := hw.2 c_34
      refine lv_aload_n hx hb dL_statement_134 rfl (lv_at hl 1 rfl) ?_
      refine W.widen (k := 1) (n := 9) (by omega) (by omega) ?_
      subst hQM
      exact W.aret (v := .ref a_q_1) hx hb hr (Or.inr ⟨_, rfl⟩) (Or.inr ⟨_, rfl⟩) (fun t ht hW => ⟨⟨some a_q_1, (r__31, a_q_1, 9, q2_32, ()), rfl, ⟨rfl, hw⟩, ⟨P_at ht hP, hD⟩⟩, hS.F ht⟩) hS.2.2 dL_statement_135
    · have hw := hw.1 c_34
      refine lv_aload_n hx hb dL_statement_80 rfl (lv_at hl 1 rfl) ?_
      refine lv_iconst (v := 4) hx hb dL_statement_81 (by decide) ?_
      refine lv_aload_n hx hb dL_statement_82 rfl (lv_at hl 0 rfl) ?_
      refine lv_iconst (v := 3) hx hb dL_statement_83 (by decide) ?_
      obtain ⟨hPs, hDs⟩ := seg_call (segs := [[(a_r_, .inl (g 0, n_r_, .inl r__31))], [(a_q_1, .inl (g 0, 9, .inl q2_32))]]) [[(a_q_1, .inl (g 0, 9, .inl q2_32))]] [[(a_r_, .inl (g 0, n_r_, .inl r__31))]] 2 [1, 0] rfl rfl (by decide) hP hD
      have hPc : va_P (dC, dI) vwCl [(a_r_, .inl (g 0, n_r_, .inl r__31))] H := P_r hPs
      have hDc : va_D A [(a_r_, .inl (g 0, n_r_, .inl r__31))] := D_r hDs
      have hFc : ∀ q, va_A [(a_r_, .inl (g 0, n_r_, .inl r__31))] H.size q → A q := A_all hDc hA hS.1
      refine va_calli (va_runS (As := [.ref a_r_, .int 3]) (rest := [.int 4, .ref a_q_1]) ⟨hx, hb, hml, hown, hts⟩ (c_L_draw l hlf dC dI g (a_r_ := a_r_) (n_r_ := n_r_) (r_ := r__31) (many := 3) (hw := hw) (sz := H.size)) (va_cwS 2 hts (gqS aw_2_215 aw_2_216 aw_1_0 aw_2_217) rfl rfl rfl (by decide +kernel) ⟨Nat.le_of_ble_eq_true rfl, Nat.le_of_ble_eq_true rfl⟩) ⟨PG_blind, PG_call hK hG hS hPc hDc hFc⟩ rfl rfl hl.1 rfl (lv_room (Nat.le_of_ble_eq_true rfl)) dL_statement_84 ⟨by rw [hrc]; omega, by rw [hrs]; omega⟩) hS (fun q _ h => hFc q h) hFc (fun r_35 u_35 t_35 H_35 L_35 ht_35 hvm_35 hw_35 hB_35 hz_35 hk_35 hS => ?_)
      obtain ⟨r__36, u_35⟩ := u_35
      have hw := hw_35
      rw [ht_35] at hB_35
      obtain ⟨hP1, hD1⟩ := hB_35
      obtain ⟨hP, hD⟩ := join_r hPs hDs hk_35 hFc hP1 hD1
      obtain ⟨hP, hD⟩ := seg_join [[(a_q_1, .inl (g 0, 9, .inl q2_32))]] [[(a_r_, .inl (g 0, n_r_, .inl r__36))]] [[(a_r_, .inl (g 0, n_r_, .inl r__36))], [(a_q_1, .inl (g 0, 9, .inl q2_32))]] 2 [1, 0] rfl rfl (by decide) hP hD
      have hP : va_P (dC, dI) vwCl [(a_r_, .inl (g 0, n_r_, .inl r__36)), (a_q_1, .inl (g 0, 9, .inl q2_32))] H_35 := hP
      have hD : va_D A [(a_r_, .inl (g 0, n_r_, .inl r__36)), (a_q_1, .inl (g 0, 9, .inl q2_32))] := hD
      refine W.widen (k := 1) (n := 9) (by omega) (by omega) ?_
      refine lv_iconst (v := 1) hx hb dL_statement_87 (by decide) ?_
      refine lv_isub hx hb dL_statement_88 ?_
      refine lv_topi (fun x_37 ex_37 => ?_)
      have hw := hw x_37 ex_37
      refine va_iast hx hb hK hP hD hS 1 0 rfl rfl (by unfold vp_in; decide) dL_statement_89 (fun H_38 L_39 hP hD hS => ?_)
      have hP : va_P (dC, dI) vwCl [(a_r_, .inl (g 0, n_r_, .inl r__36)), (a_q_1, .inl (g 0, 9, .inl (upd q2_32 (4 : Int32).toNatClampNeg x_37)))] H_38 := hP
      have hD : va_D A [(a_r_, .inl (g 0, n_r_, .inl r__36)), (a_q_1, .inl (g 0, 9, .inl (upd q2_32 (4 : Int32).toNatClampNeg x_37)))] := hD
      refine lv_aload_n hx hb dL_statement_90 rfl (lv_at hl 1 rfl) ?_
      refine lv_iconst (v := 5) hx hb dL_statement_91 (by decide) ?_
      refine lv_aload_n hx hb dL_statement_92 rfl (lv_at hl 0 rfl) ?_
      refine lv_iconst (v := 4) hx hb dL_statement_93 (by decide) ?_
      obtain ⟨hPs, hDs⟩ := seg_call (segs := [[(a_r_, .inl (g 0, n_r_, .inl r__36))], [(a_q_1, .inl (g 0, 9, .inl (upd q2_32 (4 : Int32).toNatClampNeg x_37)))]]) [[(a_q_1, .inl (g 0, 9, .inl (upd q2_32 (4 : Int32).toNatClampNeg x_37)))]] [[(a_r_, .inl (g 0, n_r_, .inl r__36))]] 2 [1, 0] rfl rfl (by decide) hP hD
      have hPc : va_P (dC, dI) vwCl [(a_r_, .inl (g 0, n_r_, .inl r__36))] H_38 := P_r hPs
      have hDc : va_D A [(a_r_, .inl (g 0, n_r_, .inl r__36))] := D_r hDs
      have hFc : ∀ q, va_A [(a_r_, .inl (g 0, n_r_, .inl r__36))] H_38.size q → A q := A_all hDc hA hS.1
      refine va_calli (va_runS (As := [.ref a_r_, .int 4]) (rest := [.int 5, .ref a_q_1]) ⟨hx, hb, hml, hown, hts⟩ (c_L_draw l hlf dC dI g (a_r_ := a_r_) (n_r_ := n_r_) (r_ := r__36) (many := 4) (hw := hw) (sz := H_38.size)) (va_cwS 2 hts (gqS aw_2_215 aw_2_216 aw_1_0 aw_2_217) rfl rfl rfl (by decide +kernel) ⟨Nat.le_of_ble_eq_true rfl, Nat.le_of_ble_eq_true rfl⟩) ⟨PG_blind, PG_call hK hG hS hPc hDc hFc⟩ rfl rfl hl.1 rfl (lv_room (Nat.le_of_ble_eq_true rfl)) dL_statement_94 ⟨by rw [hrc]; omega, by rw [hrs]; omega⟩) hS (fun q _ h => hFc q h) hFc (fun r_40 u_40 t_40 H_40 L_40 ht_40 hvm_40 hw_40 hB_40 hz_40 hk_40 hS => ?_)
      obtain ⟨r__41, u_40⟩ := u_40
      have hw := hw_40
      rw [ht_40] at hB_40
      obtain ⟨hP1, hD1⟩ := hB_40
      obtain ⟨hP, hD⟩ := join_r hPs hDs hk_40 hFc hP1 hD1
      obtain ⟨hP, hD⟩ := seg_join [[(a_q_1, .inl (g 0, 9, .inl (upd q2_32 (4 : Int32).toNatClampNeg x_37)))]] [[(a_r_, .inl (g 0, n_r_, .inl r__41))]] [[(a_r_, .inl (g 0, n_r_, .inl r__41))], [(a_q_1, .inl (g 0, 9, .inl (upd q2_32 (4 : Int32).toNatClampNeg x_37)))]] 2 [1, 0] rfl rfl (by decide) hP hD
      have hP : va_P (dC, dI) vwCl [(a_r_, .inl (g 0, n_r_, .inl r__41)), (a_q_1, .inl (g 0, 9, .inl (upd q2_32 (4 : Int32).toNatClampNeg x_37)))] H_40 := hP
      have hD : va_D A [(a_r_, .inl (g 0, n_r_, .inl r__41)), (a_q_1, .inl (g 0, 9, .inl (upd q2_32 (4 : Int32).toNatClampNeg x_37)))] := hD
      refine W.widen (k := 1) (n := 9) (by omega) (by omega) ?_
      refine lv_iconst (v := 1) hx hb dL_statement_97 (by decide) ?_
      refine lv_isub hx hb dL_statement_98 ?_
      refine lv_topi (fun x_42 ex_42 => ?_)
      have hw := hw x_42 ex_42
      refine va_iast hx hb hK hP hD hS 1 0 rfl rfl (by unfold vp_in; decide) dL_statement_99 (fun H_43 L_44 hP hD hS => ?_)
      have hP : va_P (dC, dI) vwCl [(a_r_, .inl (g 0, n_r_, .inl r__41)), (a_q_1, .inl (g 0, 9, .inl (upd (upd q2_32 (4 : Int32).toNatClampNeg x_37) (5 : Int32).toNatClampNeg x_42)))] H_43 := hP
      have hD : va_D A [(a_r_, .inl (g 0, n_r_, .inl r__41)), (a_q_1, .inl (g 0, 9, .inl (upd (upd q2_32 (4 : Int32).toNatClampNeg x_37) (5 : Int32).toNatClampNeg x_42)))] := hD
      refine lv_aload_n hx hb dL_statement_100 rfl (lv_at hl 1 rfl) ?_
      refine lv_bipush (v := 6) hx hb dL_statement_101 (by decide) ?_
      refine lv_iconst (v := 1) hx hb dL_statement_103 (by decide) ?_
      refine lv_aload_n hx hb dL_statement_104 rfl (lv_at hl 0 rfl) ?_
      refine lv_bipush (v := 50) hx hb dL_statement_105 (by decide) ?_
      obtain ⟨hPs, hDs⟩ := seg_call (segs := [[(a_r_, .inl (g 0, n_r_, .inl r__41))], [(a_q_1, .inl (g 0, 9, .inl (upd (upd q2_32 (4 : Int32).toNatClampNeg x_37) (5 : Int32).toNatClampNeg x_42)))]]) [[(a_q_1, .inl (g 0, 9, .inl (upd (upd q2_32 (4 : Int32).toNatClampNeg x_37) (5 : Int32).toNatClampNeg x_42)))]] [[(a_r_, .inl (g 0, n_r_, .inl r__41))]] 2 [1, 0] rfl rfl (by decide) hP hD
      have hPc : va_P (dC, dI) vwCl [(a_r_, .inl (g 0, n_r_, .inl r__41))] H_43 := P_r hPs
      have hDc : va_D A [(a_r_, .inl (g 0, n_r_, .inl r__41))] := D_r hDs
      have hFc : ∀ q, va_A [(a_r_, .inl (g 0, n_r_, .inl r__41))] H_43.size q → A q := A_all hDc hA hS.1
      refine va_calli (va_runS (As := [.ref a_r_, .int 50]) (rest := [.int 1, .int 6, .ref a_q_1]) ⟨hx, hb, hml, hown, hts⟩ (c_L_draw l hlf dC dI g (a_r_ := a_r_) (n_r_ := n_r_) (r_ := r__41) (many := 50) (hw := hw) (sz := H_43.size)) (va_cwS 2 hts (gqS aw_2_215 aw_2_216 aw_1_0 aw_2_217) rfl rfl rfl (by decide +kernel) ⟨Nat.le_of_ble_eq_true rfl, Nat.le_of_ble_eq_true rfl⟩) ⟨PG_blind, PG_call hK hG hS hPc hDc hFc⟩ rfl rfl hl.1 rfl (lv_room (Nat.le_of_ble_eq_true rfl)) dL_statement_107 ⟨by rw [hrc]; omega, by rw [hrs]; omega⟩) hS (fun q _ h => hFc q h) hFc (fun r_45 u_45 t_45 H_45 L_45 ht_45 hvm_45 hw_45 hB_45 hz_45 hk_45 hS => ?_)
      obtain ⟨r__46, u_45⟩ := u_45
      have hw := hw_45
      rw [ht_45] at hB_45
      obtain ⟨hP1, hD1⟩ := hB_45
      obtain ⟨hP, hD⟩ := join_r hPs hDs hk_45 hFc hP1 hD1
      obtain ⟨hP, hD⟩ := seg_join [[(a_q_1, .inl (g 0, 9, .inl (upd (upd q2_32 (4 : Int32).toNatClampNeg x_37) (5 : Int32).toNatClampNeg x_42)))]] [[(a_r_, .inl (g 0, n_r_, .inl r__46))]] [[(a_r_, .inl (g 0, n_r_, .inl r__46))], [(a_q_1, .inl (g 0, 9, .inl (upd (upd q2_32 (4 : Int32).toNatClampNeg x_37) (5 : Int32).toNatClampNeg x_42)))]] 2 [1, 0] rfl rfl (by decide) hP hD
      have hP : va_P (dC, dI) vwCl [(a_r_, .inl (g 0, n_r_, .inl r__46)), (a_q_1, .inl (g 0, 9, .inl (upd (upd q2_32 (4 : Int32).toNatClampNeg x_37) (5 : Int32).toNatClampNeg x_42)))] H_45 := hP
      have hD : va_D A [(a_r_, .inl (g 0, n_r_, .inl r__46)), (a_q_1, .inl (g 0, 9, .inl (upd (upd q2_32 (4 : Int32).toNatClampNeg x_37) (5 : Int32).toNatClampNeg x_42)))] := hD
      refine W.widen (k := 1) (n := 9) (by omega) (by omega) ?_
      refine lv_iadd hx hb dL_statement_110 ?_
      refine lv_topi (fun x_47 ex_47 => ?_)
      have hw := hw x_47 ex_47
      refine va_iast hx hb hK hP hD hS 1 0 rfl rfl (by unfold vp_in; decide) dL_statement_111 (fun H_48 L_49 hP hD hS => ?_)
      have hP : va_P (dC, dI) vwCl [(a_r_, .inl (g 0, n_r_, .inl r__46)), (a_q_1, .inl (g 0, 9, .inl (upd (upd (upd q2_32 (4 : Int32).toNatClampNeg x_37) (5 : Int32).toNatClampNeg x_42) (6 : Int32).toNatClampNeg x_47)))] H_48 := hP
      have hD : va_D A [(a_r_, .inl (g 0, n_r_, .inl r__46)), (a_q_1, .inl (g 0, 9, .inl (upd (upd (upd q2_32 (4 : Int32).toNatClampNeg x_37) (5 : Int32).toNatClampNeg x_42) (6 : Int32).toNatClampNeg x_47)))] := hD
      refine lv_aload_n hx hb dL_statement_112 rfl (lv_at hl 1 rfl) ?_
      refine lv_bipush (v := 7) hx hb dL_statement_113 (by decide) ?_
      refine lv_aload_n hx hb dL_statement_115 rfl (lv_at hl 0 rfl) ?_
      refine lv_iconst (v := 4) hx hb dL_statement_116 (by decide) ?_
      obtain ⟨hPs, hDs⟩ := seg_call (segs := [[(a_r_, .inl (g 0, n_r_, .inl r__46))], [(a_q_1, .inl (g 0, 9, .inl (upd (upd (upd q2_32 (4 : Int32).toNatClampNeg x_37) (5 : Int32).toNatClampNeg x_42) (6 : Int32).toNatClampNeg x_47)))]]) [[(a_q_1, .inl (g 0, 9, .inl (upd (upd (upd q2_32 (4 : Int32).toNatClampNeg x_37) (5 : Int32).toNatClampNeg x_42) (6 : Int32).toNatClampNeg x_47)))]] [[(a_r_, .inl (g 0, n_r_, .inl r__46))]] 2 [1, 0] rfl rfl (by decide) hP hD
      have hPc : va_P (dC, dI) vwCl [(a_r_, .inl (g 0, n_r_, .inl r__46))] H_48 := P_r hPs
      have hDc : va_D A [(a_r_, .inl (g 0, n_r_, .inl r__46))] := D_r hDs
      have hFc : ∀ q, va_A [(a_r_, .inl (g 0, n_r_, .inl r__46))] H_48.size q → A q := A_all hDc hA hS.1
      refine va_calli (va_runS (As := [.ref a_r_, .int 4]) (rest := [.int 7, .ref a_q_1]) ⟨hx, hb, hml, hown, hts⟩ (c_L_draw l hlf dC dI g (a_r_ := a_r_) (n_r_ := n_r_) (r_ := r__46) (many := 4) (hw := hw) (sz := H_48.size)) (va_cwS 2 hts (gqS aw_2_215 aw_2_216 aw_1_0 aw_2_217) rfl rfl rfl (by decide +kernel) ⟨Nat.le_of_ble_eq_true rfl, Nat.le_of_ble_eq_true rfl⟩) ⟨PG_blind, PG_call hK hG hS hPc hDc hFc⟩ rfl rfl hl.1 rfl (lv_room (Nat.le_of_ble_eq_true rfl)) dL_statement_117 ⟨by rw [hrc]; omega, by rw [hrs]; omega⟩) hS (fun q _ h => hFc q h) hFc (fun r_50 u_50 t_50 H_50 L_50 ht_50 hvm_50 hw_50 hB_50 hz_50 hk_50 hS => ?_)
      obtain ⟨r__51, u_50⟩ := u_50
      have hw := hw_50
      rw [ht_50] at hB_50
      obtain ⟨hP1, hD1⟩ := hB_50
      obtain ⟨hP, hD⟩ := join_r hPs hDs hk_50 hFc hP1 hD1
      obtain ⟨hP, hD⟩ := seg_join [[(a_q_1, .inl (g 0, 9, .inl (upd (upd (upd q2_32 (4 : Int32).toNatClampNeg x_37) (5 : Int32).toNatClampNeg x_42) (6 : Int32).toNatClampNeg x_47)))]] [[(a_r_, .inl (g 0, n_r_, .inl r__51))]] [[(a_r_, .inl (g 0, n_r_, .inl r__51))], [(a_q_1, .inl (g 0, 9, .inl (upd (upd (upd q2_32 (4 : Int32).toNatClampNeg x_37) (5 : Int32).toNatClampNeg x_42) (6 : Int32).toNatClampNeg x_47)))]] 2 [1, 0] rfl rfl (by decide) hP hD
      have hP : va_P (dC, dI) vwCl [(a_r_, .inl (g 0, n_r_, .inl r__51)), (a_q_1, .inl (g 0, 9, .inl (upd (upd (upd q2_32 (4 : Int32).toNatClampNeg x_37) (5 : Int32).toNatClampNeg x_42) (6 : Int32).toNatClampNeg x_47)))] H_50 := hP
      have hD : va_D A [(a_r_, .inl (g 0, n_r_, .inl r__51)), (a_q_1, .inl (g 0, 9, .inl (upd (upd (upd q2_32 (4 : Int32).toNatClampNeg x_37) (5 : Int32).toNatClampNeg x_42) (6 : Int32).toNatClampNeg x_47)))] := hD
      refine W.widen (k := 1) (n := 9) (by omega) (by omega) ?_
      refine lv_iconst (v := 1) hx hb dL_statement_120 (by decide) ?_
      refine lv_isub hx hb dL_statement_121 ?_
      refine lv_topi (fun x_52 ex_52 => ?_)
      have hw := hw x_52 ex_52
      refine va_iast hx hb hK hP hD hS 1 0 rfl rfl (by unfold vp_in; decide) dL_statement_122 (fun H_53 L_54 hP hD hS => ?_)
      have hP : va_P (dC, dI) vwCl [(a_r_, .inl (g 0, n_r_, .inl r__51)), (a_q_1, .inl (g 0, 9, .inl (upd (upd (upd (upd q2_32 (4 : Int32).toNatClampNeg x_37) (5 : Int32).toNatClampNeg x_42) (6 : Int32).toNatClampNeg x_47) (7 : Int32).toNatClampNeg x_52)))] H_53 := hP
      have hD : va_D A [(a_r_, .inl (g 0, n_r_, .inl r__51)), (a_q_1, .inl (g 0, 9, .inl (upd (upd (upd (upd q2_32 (4 : Int32).toNatClampNeg x_37) (5 : Int32).toNatClampNeg x_42) (6 : Int32).toNatClampNeg x_47) (7 : Int32).toNatClampNeg x_52)))] := hD
      refine lv_aload_n hx hb dL_statement_123 rfl (lv_at hl 1 rfl) ?_
      refine lv_bipush (v := 8) hx hb dL_statement_124 (by decide) ?_
      refine lv_iconst (v := 2) hx hb dL_statement_126 (by decide) ?_
      refine lv_aload_n hx hb dL_statement_127 rfl (lv_at hl 0 rfl) ?_
      refine lv_iconst (v := 5) hx hb dL_statement_128 (by decide) ?_
      obtain ⟨hPs, hDs⟩ := seg_call (segs := [[(a_r_, .inl (g 0, n_r_, .inl r__51))], [(a_q_1, .inl (g 0, 9, .inl (upd (upd (upd (upd q2_32 (4 : Int32).toNatClampNeg x_37) (5 : Int32).toNatClampNeg x_42) (6 : Int32).toNatClampNeg x_47) (7 : Int32).toNatClampNeg x_52)))]]) [[(a_q_1, .inl (g 0, 9, .inl (upd (upd (upd (upd q2_32 (4 : Int32).toNatClampNeg x_37) (5 : Int32).toNatClampNeg x_42) (6 : Int32).toNatClampNeg x_47) (7 : Int32).toNatClampNeg x_52)))]] [[(a_r_, .inl (g 0, n_r_, .inl r__51))]] 2 [1, 0] rfl rfl (by decide) hP hD
      have hPc : va_P (dC, dI) vwCl [(a_r_, .inl (g 0, n_r_, .inl r__51))] H_53 := P_r hPs
      have hDc : va_D A [(a_r_, .inl (g 0, n_r_, .inl r__51))] := D_r hDs
      have hFc : ∀ q, va_A [(a_r_, .inl (g 0, n_r_, .inl r__51))] H_53.size q → A q := A_all hDc hA hS.1
      refine va_calli (va_runS (As := [.ref a_r_, .int 5]) (rest := [.int 2, .int 8, .ref a_q_1]) ⟨hx, hb, hml, hown, hts⟩ (c_L_draw l hlf dC dI g (a_r_ := a_r_) (n_r_ := n_r_) (r_ := r__51) (many := 5) (hw := hw) (sz := H_53.size)) (va_cwS 2 hts (gqS aw_2_215 aw_2_216 aw_1_0 aw_2_217) rfl rfl rfl (by decide +kernel) ⟨Nat.le_of_ble_eq_true rfl, Nat.le_of_ble_eq_true rfl⟩) ⟨PG_blind, PG_call hK hG hS hPc hDc hFc⟩ rfl rfl hl.1 rfl (lv_room (Nat.le_of_ble_eq_true rfl)) dL_statement_129 ⟨by rw [hrc]; omega, by rw [hrs]; omega⟩) hS (fun q _ h => hFc q h) hFc (fun r_55 u_55 t_55 H_55 L_55 ht_55 hvm_55 hw_55 hB_55 hz_55 hk_55 hS => ?_)
      obtain ⟨r__56, u_55⟩ := u_55
      have hw := hw_55
      rw [ht_55] at hB_55
      obtain ⟨hP1, hD1⟩ := hB_55
      obtain ⟨hP, hD⟩ := join_r hPs hDs hk_55 hFc hP1 hD1
      obtain ⟨hP, hD⟩ := seg_join [[(a_q_1, .inl (g 0, 9, .inl (upd (upd (upd (upd q2_32 (4 : Int32).toNatClampNeg x_37) (5 : Int32).toNatClampNeg x_42) (6 : Int32).toNatClampNeg x_47) (7 : Int32).toNatClampNeg x_52)))]] [[(a_r_, .inl (g 0, n_r_, .inl r__56))]] [[(a_r_, .inl (g 0, n_r_, .inl r__56))], [(a_q_1, .inl (g 0, 9, .inl (upd (upd (upd (upd q2_32 (4 : Int32).toNatClampNeg x_37) (5 : Int32).toNatClampNeg x_42) (6 : Int32).toNatClampNeg x_47) (7 : Int32).toNatClampNeg x_52)))]] 2 [1, 0] rfl rfl (by decide) hP hD
      have hP : va_P (dC, dI) vwCl [(a_r_, .inl (g 0, n_r_, .inl r__56)), (a_q_1, .inl (g 0, 9, .inl (upd (upd (upd (upd q2_32 (4 : Int32).toNatClampNeg x_37) (5 : Int32).toNatClampNeg x_42) (6 : Int32).toNatClampNeg x_47) (7 : Int32).toNatClampNeg x_52)))] H_55 := hP
      have hD : va_D A [(a_r_, .inl (g 0, n_r_, .inl r__56)), (a_q_1, .inl (g 0, 9, .inl (upd (upd (upd (upd q2_32 (4 : Int32).toNatClampNeg x_37) (5 : Int32).toNatClampNeg x_42) (6 : Int32).toNatClampNeg x_47) (7 : Int32).toNatClampNeg x_52)))] := hD
      refine W.widen (k := 1) (n := 9) (by omega) (by omega) ?_
      refine lv_iadd hx hb dL_statement_132 ?_
      refine lv_topi (fun x_57 ex_57 => ?_)
      have hw := hw x_57 ex_57
      refine va_iast hx hb hK hP hD hS 1 0 rfl rfl (by unfold vp_in; decide) dL_statement_133 (fun H_58 L_59 hP hD hS => ?_)
      have hP : va_P (dC, dI) vwCl [(a_r_, .inl (g 0, n_r_, .inl r__56)), (a_q_1, .inl (g 0, 9, .inl (upd (upd (upd (upd (upd q2_32 (4 : Int32).toNatClampNeg x_37) (5 : Int32).toNatClampNeg x_42) (6 : Int32).toNatClampNeg x_47) (7 : Int32).toNatClampNeg x_52) (8 : Int32).toNatClampNeg x_57)))] H_58 := hP
      have hD : va_D A [(a_r_, .inl (g 0, n_r_, .inl r__56)), (a_q_1, .inl (g 0, 9, .inl (upd (upd (upd (upd (upd q2_32 (4 : Int32).toNatClampNeg x_37) (5 : Int32).toNatClampNeg x_42) (6 : Int32).toNatClampNeg x_47) (7 : Int32).toNatClampNeg x_52) (8 : Int32).toNatClampNeg x_57)))] := hD
      refine lv_aload_n hx hb dL_statement_134 rfl (lv_at hl 1 rfl) ?_
      refine W.widen (k := 1) (n := 9) (by omega) (by omega) ?_
      subst hQM
      exact W.aret (v := .ref a_q_1) hx hb hr (Or.inr ⟨_, rfl⟩) (Or.inr ⟨_, rfl⟩) (fun t ht hW => ⟨⟨some a_q_1, (r__56, a_q_1, 9, (upd (upd (upd (upd (upd q2_32 (4 : Int32).toNatClampNeg x_37) (5 : Int32).toNatClampNeg x_42) (6 : Int32).toNatClampNeg x_47) (7 : Int32).toNatClampNeg x_52) (8 : Int32).toNatClampNeg x_57), ()), rfl, ⟨rfl, hw⟩, ⟨P_at ht hP, hD⟩⟩, hS.F ht⟩) hS.2.2 dL_statement_135
  refine lv_if_ne (tgt := 74) hx hb dL_statement_67 (by decide) (fun c_60 => ?_) (fun c_60 => ?_)
  · have hw := hw.2 c_60
    refine W.widen (k := 1) (n := 9) (by omega) (by omega) ?_
    exact JN74 (upd (upd (upd (upd (upd (upd (upd (upd (upd (fun _ => 0) (0 : Int32).toNatClampNeg r_4) (1 : Int32).toNatClampNeg r_8) (2 : Int32).toNatClampNeg r_12) (3 : Int32).toNatClampNeg r_16) (4 : Int32).toNatClampNeg (-1)) (5 : Int32).toNatClampNeg (-1)) (6 : Int32).toNatClampNeg (-1)) (7 : Int32).toNatClampNeg (-1)) (8 : Int32).toNatClampNeg (-1)) _ _ hw hP hD hS _ (lv_sub hl [1, 0] rfl)
  · have hw := hw.1 c_60
    refine lv_aload_n hx hb dL_statement_70 rfl (lv_at hl 0 rfl) ?_
    refine lv_iconst (v := 0) hx hb dL_statement_71 (by decide) ?_
    refine lv_iconst (v := 0) hx hb dL_statement_72 (by decide) ?_
    refine va_iast hx hb hK hP hD hS 1 0 rfl rfl (by unfold vp_in; decide) dL_statement_73 (fun H_61 L_62 hP hD hS => ?_)
    have hP : va_P (dC, dI) vwCl [(a_r_, .inl (g 0, n_r_, .inl r__31)), (a_q_1, .inl (g 0, 9, .inl (upd (upd (upd (upd (upd (upd (upd (upd (upd (upd (fun _ => 0) (0 : Int32).toNatClampNeg r_4) (1 : Int32).toNatClampNeg r_8) (2 : Int32).toNatClampNeg r_12) (3 : Int32).toNatClampNeg r_16) (4 : Int32).toNatClampNeg (-1)) (5 : Int32).toNatClampNeg (-1)) (6 : Int32).toNatClampNeg (-1)) (7 : Int32).toNatClampNeg (-1)) (8 : Int32).toNatClampNeg (-1)) (0 : Int32).toNatClampNeg 0)))] H_61 := hP
    have hD : va_D A [(a_r_, .inl (g 0, n_r_, .inl r__31)), (a_q_1, .inl (g 0, 9, .inl (upd (upd (upd (upd (upd (upd (upd (upd (upd (upd (fun _ => 0) (0 : Int32).toNatClampNeg r_4) (1 : Int32).toNatClampNeg r_8) (2 : Int32).toNatClampNeg r_12) (3 : Int32).toNatClampNeg r_16) (4 : Int32).toNatClampNeg (-1)) (5 : Int32).toNatClampNeg (-1)) (6 : Int32).toNatClampNeg (-1)) (7 : Int32).toNatClampNeg (-1)) (8 : Int32).toNatClampNeg (-1)) (0 : Int32).toNatClampNeg 0)))] := hD
    refine W.widen (k := 1) (n := 9) (by omega) (by omega) ?_
    exact JN74 (upd (upd (upd (upd (upd (upd (upd (upd (upd (upd (fun _ => 0) (0 : Int32).toNatClampNeg r_4) (1 : Int32).toNatClampNeg r_8) (2 : Int32).toNatClampNeg r_12) (3 : Int32).toNatClampNeg r_16) (4 : Int32).toNatClampNeg (-1)) (5 : Int32).toNatClampNeg (-1)) (6 : Int32).toNatClampNeg (-1)) (7 : Int32).toNatClampNeg (-1)) (8 : Int32).toNatClampNeg (-1)) (0 : Int32).toNatClampNeg 0) _ _ hw hP hD hS _ (lv_sub hl [1, 0] rfl)
theorem dL_asks_0 : decode cL_asks 0 = .ok (.iload_n 1, 1) := by decide +kernel
theorem dL_asks_1 : decode cL_asks 1 = .ok (.tableswitch 239 0 18 #[91, 100, 111, 122, 129, 138, 145, 154, 161, 168, 174, 179, 185, 195, 202, 209, 216, 221, 228], 91) := by decide +kernel
theorem dL_asks_92 : decode cL_asks 92 = .ok (.aload_n 0, 1) := by decide +kernel
theorem dL_asks_93 : decode cL_asks 93 = .ok (.iload_n 2, 1) := by decide +kernel
theorem dL_asks_94 : decode cL_asks 94 = .ok (.iload_n 3, 1) := by decide +kernel
theorem dL_asks_95 : decode cL_asks 95 = .ok (.iload 4, 2) := by decide +kernel
theorem dL_asks_97 : decode cL_asks 97 = .ok (.invokevirtual 19, 3) := by decide +kernel
theorem dL_asks_249 : decode cL_asks 249 = .ok (.astore 5, 2) := by decide +kernel
theorem dL_asks_251 : decode cL_asks 251 = .ok (.sipush (-20001), 3) := by decide +kernel
theorem dL_asks_254 : decode cL_asks 254 = .ok (.ireturn, 1) := by decide +kernel
theorem dL_asks_255 : decode cL_asks 255 = .ok (.astore 5, 2) := by decide +kernel
theorem dL_asks_257 : decode cL_asks 257 = .ok (.sipush (-20002), 3) := by decide +kernel
theorem dL_asks_260 : decode cL_asks 260 = .ok (.ireturn, 1) := by decide +kernel
theorem dL_asks_261 : decode cL_asks 261 = .ok (.astore 5, 2) := by decide +kernel
theorem dL_asks_263 : decode cL_asks 263 = .ok (.sipush (-20003), 3) := by decide +kernel
theorem dL_asks_266 : decode cL_asks 266 = .ok (.ireturn, 1) := by decide +kernel
theorem dL_asks_267 : decode cL_asks 267 = .ok (.astore 5, 2) := by decide +kernel
theorem dL_asks_269 : decode cL_asks 269 = .ok (.sipush (-20004), 3) := by decide +kernel
theorem dL_asks_272 : decode cL_asks 272 = .ok (.ireturn, 1) := by decide +kernel
theorem dL_asks_100 : decode cL_asks 100 = .ok (.ireturn, 1) := by decide +kernel

set_option maxHeartbeats 8000000 in
set_option maxRecDepth 100000 in
theorem c_L_asks_0 (l : Launch) (hlf : l.stackTraces = false) (dC : Nat → ClassId) (dI : Nat → Nat → Nat) (g : Nat → ClassId) (tp_p_ hd_p_ : Nat → Nat) (tf_p_ cf_p_ : Nat → Option Nat) (htf_p_ : ∀ j, j < 8 → tf_p_ j = some (tp_p_ j)) (hcf_p_ : ∀ j, j < 8 → cf_p_ j = some (tp_p_ (8 + j))) (a_p_ : Nat → Nat) (t_p_ : Nat) (h_p_ : a_p_ 0 = t_p_) (o_p_ : OS) (a_ : Int32) (b_ : Int32) (c_ : Int32) (Q : Int32 → OS → Prop) (hw : wp_L_asks_0 o_p_ a_ b_ c_ Q) (sz : Nat) : Met l yL_asks wqL_asks ({ frames := 8, cells := 4, slots := 24, locals := 130 }) (va_Pc [.ref t_p_, .int 0, .int a_, .int b_, .int c_] (PG (dC, dI) g (offS a_p_ tp_p_ hd_p_ tf_p_ cf_p_ g o_p_) sz)) (va_Qi (fun (r : Int32) (u : (Nat → Nat) × OS × Unit) => Q r u.2.1 ∧ u.1 0 = t_p_) (fun (u : (Nat → Nat) × OS × Unit) t9 => va_P (dC, dI) vwCl (offS u.1 tp_p_ hd_p_ tf_p_ cf_p_ g u.2.1) t9.heap ∧ va_D (va_A (offS a_p_ tp_p_ hd_p_ tf_p_ cf_p_ g o_p_) sz) (offS u.1 tp_p_ hd_p_ tf_p_ cf_p_ g u.2.1)) (va_A (offS a_p_ tp_p_ hd_p_ tf_p_ cf_p_ g o_p_) sz)) 4 24 (va_A (offS a_p_ tp_p_ hd_p_ tf_p_ cf_p_ g o_p_) sz) := by
  refine mt_ofWH (cc := cL_asks) (maxL := 6) (ret := (some .int)) (hh := [(0, 100, 249, 82), (101, 111, 249, 82), (112, 122, 249, 82), (123, 129, 249, 82), (130, 138, 249, 82), (139, 145, 249, 82), (146, 154, 249, 82), (155, 161, 249, 82), (162, 168, 249, 82), (169, 174, 249, 82), (175, 179, 249, 82), (180, 185, 249, 82), (186, 195, 249, 82), (196, 202, 249, 82), (203, 209, 249, 82), (210, 216, 249, 82), (217, 221, 249, 82), (222, 228, 249, 82), (229, 239, 249, 82), (240, 248, 249, 82), (0, 100, 255, 84), (101, 111, 255, 84), (112, 122, 255, 84), (123, 129, 255, 84), (130, 138, 255, 84), (139, 145, 255, 84), (146, 154, 255, 84), (155, 161, 255, 84), (162, 168, 255, 84), (169, 174, 255, 84), (175, 179, 255, 84), (180, 185, 255, 84), (186, 195, 255, 84), (196, 202, 255, 84), (203, 209, 255, 84), (210, 216, 255, 84), (217, 221, 255, 84), (222, 228, 255, 84), (229, 239, 255, 84), (240, 248, 255, 84), (0, 100, 261, 86), (101, 111, 261, 86), (112, 122, 261, 86), (123, 129, 261, 86), (130, 138, 261, 86), (139, 145, 261, 86), (146, 154, 261, 86), (155, 161, 261, 86), (162, 168, 261, 86), (169, 174, 261, 86), (175, 179, 261, 86), (180, 185, 261, 86), (186, 195, 261, 86), (196, 202, 261, 86), (203, 209, 261, 86), (210, 216, 261, 86), (217, 221, 261, 86), (222, 228, 261, 86), (229, 239, 261, 86), (240, 248, 261, 86), (0, 100, 267, 88), (101, 111, 267, 88), (112, 122, 267, 88), (123, 129, 267, 88), (130, 138, 267, 88), (139, 145, 267, 88), (146, 154, 267, 88), (155, 161, 267, 88), (162, 168, 267, 88), (169, 174, 267, 88), (175, 179, 267, 88), (180, 185, 267, 88), (186, 195, 267, 88), (196, 202, 267, 88), (203, 209, 267, 88), (210, 216, 267, 88), (217, 221, 267, 88), (222, 228, 267, 88), (229, 239, 267, 88), (240, 248, 267, 88)]) (by decide) rfl ?_
  intro p e s m args below meth c s₁ B hml hv
  obtain ⟨rfl, hsz, hP, hK, hD0, hG⟩ := hv
  have hx := B.exec
  have hb := B.bytes
  have hr := B.returns
  have hts := atoms_spec (ws := wqL_asks) B.pre
  have hown : s.vm.findClass RL = some m.cls := findClass_of_methodNamed B.named
  have hlocks := B.notSynchronized
  subst hsz
  have hD := hD0.self (sz := s.heap.size)
  generalize hAe : va_A (offS a_p_ tp_p_ hd_p_ tf_p_ cf_p_ g o_p_) s.heap.size = A at hD hG ⊢
  have hA : ∀ q : Nat, s.heap.size ≤ q → A q := fun q h => by rw [← hAe]; exact Or.inr h
  have hS : va_S A s.heap s.heap [] := va_S.rf
  have hrc : (headSpec wqL_asks ({ frames := 8, cells := 4, slots := 24, locals := 130 })).room.cells = 4 := rfl
  have hrs : (headSpec wqL_asks ({ frames := 8, cells := 4, slots := 24, locals := 130 })).room.slots = 24 := rfl
  have hTab := vx_table (x := yL_asks) B (hts (Cond.codeWith yL_asks cL_asks 6 (some .int) [(0, 100, 249, 82), (101, 111, 249, 82), (112, 122, 249, 82), (123, 129, 249, 82), (130, 138, 249, 82), (139, 145, 249, 82), (146, 154, 249, 82), (155, 161, 249, 82), (162, 168, 249, 82), (169, 174, 249, 82), (175, 179, 249, 82), (180, 185, 249, 82), (186, 195, 249, 82), (196, 202, 249, 82), (203, 209, 249, 82), (210, 216, 249, 82), (217, 221, 249, 82), (222, 228, 249, 82), (229, 239, 249, 82), (240, 248, 249, 82), (0, 100, 255, 84), (101, 111, 255, 84), (112, 122, 255, 84), (123, 129, 255, 84), (130, 138, 255, 84), (139, 145, 255, 84), (146, 154, 255, 84), (155, 161, 255, 84), (162, 168, 255, 84), (169, 174, 255, 84), (175, 179, 255, 84), (180, 185, 255, 84), (186, 195, 255, 84), (196, 202, 255, 84), (203, 209, 255, 84), (210, 216, 255, 84), (217, 221, 255, 84), (222, 228, 255, 84), (229, 239, 255, 84), (240, 248, 255, 84), (0, 100, 261, 86), (101, 111, 261, 86), (112, 122, 261, 86), (123, 129, 261, 86), (130, 138, 261, 86), (139, 145, 261, 86), (146, 154, 261, 86), (155, 161, 261, 86), (162, 168, 261, 86), (169, 174, 261, 86), (175, 179, 261, 86), (180, 185, 261, 86), (186, 195, 261, 86), (196, 202, 261, 86), (203, 209, 261, 86), (210, 216, 261, 86), (217, 221, 261, 86), (222, 228, 261, 86), (229, 239, 261, 86), (240, 248, 261, 86), (0, 100, 267, 88), (101, 111, 267, 88), (112, 122, 267, 88), (123, 129, 267, 88), (130, 138, 267, 88), (139, 145, 267, 88), (146, 154, 267, 88), (155, 161, 267, 88), (162, 168, 267, 88), (169, 174, 267, 88), (175, 179, 267, 88), (180, 185, 267, 88), (186, 195, 267, 88), (196, 202, 267, 88), (203, 209, 267, 88), (210, 216, 267, 88), (217, 221, 267, 88), (222, 228, 267, 88), (229, 239, 267, 88), (240, 248, 267, 88)]) (List.mem_cons_self))
  have hl := lv_entry ([.ref t_p_, .int 0, .int a_, .int b_, .int c_]) (n := 6) (Nat.le_of_ble_eq_true rfl)
  rw [lg_entry_eq]
  generalize (lg_sl ([.ref t_p_, .int 0, .int a_, .int b_, .int c_]) ++ List.replicate (6 - (lg_sl ([.ref t_p_, .int 0, .int a_, .int b_, .int c_])).length) Slot.unset).toArray = ls at hl ⊢
  have hl : lv_has ls 6 [(0, .ref t_p_), (1, .int 0), (2, .int a_), (3, .int b_), (4, .int c_)] := hl
  unfold wp_L_asks_0 at hw
  have hxl82 := hts (Cond.classLink RL 82 "java/lang/IndexOutOfBoundsException") (aw_l aw_4_48)
  have hxl84 := hts (Cond.classLink RL 84 "java/util/NoSuchElementException") (aw_l aw_4_49)
  have hxl86 := hts (Cond.classLink RL 86 "java/lang/IllegalArgumentException") (aw_l aw_4_50)
  have hxl88 := hts (Cond.classLink RL 88 "java/lang/IllegalStateException") (aw_l aw_4_51)
  refine lv_iload_n hx hb dL_asks_0 rfl (lv_at hl 1 rfl) ?_
  refine lv_tableIn (tgt := 92) hx hb dL_asks_1 (by decide) (by decide) rfl (by decide) ?_
  refine lv_aload_n hx hb dL_asks_92 rfl (lv_at hl 0 rfl) ?_
  refine lv_iload_n hx hb dL_asks_93 rfl (lv_at hl 2 rfl) ?_
  refine lv_iload_n hx hb dL_asks_94 rfl (lv_at hl 3 rfl) ?_
  refine lv_iload hx hb dL_asks_95 (lv_at hl 4 rfl) ?_
  obtain ⟨hPs, hDs⟩ := seg_call (segs := [offS a_p_ tp_p_ hd_p_ tf_p_ cf_p_ g o_p_]) [] [offS a_p_ tp_p_ hd_p_ tf_p_ cf_p_ g o_p_] 1 [0] rfl rfl (by decide) hP hD
  have hPc : va_P (dC, dI) vwCl (offS a_p_ tp_p_ hd_p_ tf_p_ cf_p_ g o_p_) s.heap := P_r hPs
  have hDc : va_D A (offS a_p_ tp_p_ hd_p_ tf_p_ cf_p_ g o_p_) := D_r hDs
  have hFc : ∀ q, va_A (offS a_p_ tp_p_ hd_p_ tf_p_ cf_p_ g o_p_) s.heap.size q → A q := A_all hDc hA hS.1
  refine vx_calli (vx_runV (As := [.int a_, .int b_, .int c_]) (rest := []) ⟨hx, hb, hml, hown, hts⟩ (p_put l hlf dC dI g tp_p_ hd_p_ tf_p_ cf_p_ htf_p_ hcf_p_ a_p_ t_p_ h_p_ o_p_ a_ b_ c_ (hw := hw) (sz := s.heap.size)) (cwV 3 hts (gqV aw_3_128 aw_3_129 aw_3_130 aw_1_1 aw_3_131) rfl rfl rfl (by decide +kernel) ⟨Nat.le_of_ble_eq_true rfl, Nat.le_of_ble_eq_true rfl⟩) ⟨PG_blind, off_recv h_p_ hK hPc, PG_call hK hG hS hPc hDc hFc⟩ rfl rfl hl.1 rfl (lv_room (Nat.le_of_ble_eq_true rfl)) dL_asks_97 ⟨by rw [hrc]; omega, by rw [hrs]; omega⟩) hS (fun q _ h => hFc q h) hFc (fun q _ h => hFc q h) (fun E ce q9 ux t H1 locs1 ht hvm hp9 hB9 hz hk hS9 hce hcv hcl => ?_) (fun r_1 u_1 t_1 H_1 L_1 ht_1 hvm_1 hw_1 hB_1 hz_1 hk_1 hS => ?_)
  · obtain ⟨ad_2, o_3⟩ := ux
    obtain ⟨⟨hw9, had_2⟩, hB9⟩ := hB9
    rw [ht] at hB9
    obtain ⟨hP1, hD1⟩ := hB9
    obtain ⟨hP, hD⟩ := join_r hPs hDs hk hFc hP1 hD1
    obtain ⟨hP, hD⟩ := seg_join [] [offS ad_2 tp_p_ hd_p_ tf_p_ cf_p_ g o_3] [offS ad_2 tp_p_ hd_p_ tf_p_ cf_p_ g o_3] 1 [0] rfl rfl (by decide) hP hD
    have hP : va_P (dC, dI) vwCl (offS ad_2 tp_p_ hd_p_ tf_p_ cf_p_ g o_3) H1 := hP
    have hD : va_D A (offS ad_2 tp_p_ hd_p_ tf_p_ cf_p_ g o_3) := hD
    rcases hw9 with ⟨rfl, hw⟩ | ⟨rfl, hw⟩ | ⟨rfl, hw⟩ | ⟨rfl, hw⟩
    · refine vx_catch (own := RL) (name := "java/lang/IndexOutOfBoundsException") (E := "java/lang/IndexOutOfBoundsException") hown [] ⟨0, 100, 249, 82⟩ [⟨101, 111, 249, 82⟩, ⟨112, 122, 249, 82⟩, ⟨123, 129, 249, 82⟩, ⟨130, 138, 249, 82⟩, ⟨139, 145, 249, 82⟩, ⟨146, 154, 249, 82⟩, ⟨155, 161, 249, 82⟩, ⟨162, 168, 249, 82⟩, ⟨169, 174, 249, 82⟩, ⟨175, 179, 249, 82⟩, ⟨180, 185, 249, 82⟩, ⟨186, 195, 249, 82⟩, ⟨196, 202, 249, 82⟩, ⟨203, 209, 249, 82⟩, ⟨210, 216, 249, 82⟩, ⟨217, 221, 249, 82⟩, ⟨222, 228, 249, 82⟩, ⟨229, 239, 249, 82⟩, ⟨240, 248, 249, 82⟩, ⟨0, 100, 255, 84⟩, ⟨101, 111, 255, 84⟩, ⟨112, 122, 255, 84⟩, ⟨123, 129, 255, 84⟩, ⟨130, 138, 255, 84⟩, ⟨139, 145, 255, 84⟩, ⟨146, 154, 255, 84⟩, ⟨155, 161, 255, 84⟩, ⟨162, 168, 255, 84⟩, ⟨169, 174, 255, 84⟩, ⟨175, 179, 255, 84⟩, ⟨180, 185, 255, 84⟩, ⟨186, 195, 255, 84⟩, ⟨196, 202, 255, 84⟩, ⟨203, 209, 255, 84⟩, ⟨210, 216, 255, 84⟩, ⟨217, 221, 255, 84⟩, ⟨222, 228, 255, 84⟩, ⟨229, 239, 255, 84⟩, ⟨240, 248, 255, 84⟩, ⟨0, 100, 261, 86⟩, ⟨101, 111, 261, 86⟩, ⟨112, 122, 261, 86⟩, ⟨123, 129, 261, 86⟩, ⟨130, 138, 261, 86⟩, ⟨139, 145, 261, 86⟩, ⟨146, 154, 261, 86⟩, ⟨155, 161, 261, 86⟩, ⟨162, 168, 261, 86⟩, ⟨169, 174, 261, 86⟩, ⟨175, 179, 261, 86⟩, ⟨180, 185, 261, 86⟩, ⟨186, 195, 261, 86⟩, ⟨196, 202, 261, 86⟩, ⟨203, 209, 261, 86⟩, ⟨210, 216, 261, 86⟩, ⟨217, 221, 261, 86⟩, ⟨222, 228, 261, 86⟩, ⟨229, 239, 261, 86⟩, ⟨240, 248, 261, 86⟩, ⟨0, 100, 267, 88⟩, ⟨101, 111, 267, 88⟩, ⟨112, 122, 267, 88⟩, ⟨123, 129, 267, 88⟩, ⟨130, 138, 267, 88⟩, ⟨139, 145, 267, 88⟩, ⟨146, 154, 267, 88⟩, ⟨155, 161, 267, 88⟩, ⟨162, 168, 267, 88⟩, ⟨169, 174, 267, 88⟩, ⟨175, 179, 267, 88⟩, ⟨180, 185, 267, 88⟩, ⟨186, 195, 267, 88⟩, ⟨196, 202, 267, 88⟩, ⟨203, 209, 267, 88⟩, ⟨210, 216, 267, 88⟩, ⟨217, 221, 267, 88⟩, ⟨222, 228, 267, 88⟩, ⟨229, 239, 267, 88⟩, ⟨240, 248, 267, 88⟩] (by rw [hTab]; rfl) (fun z hz => absurd hz List.not_mem_nil) (by decide) (by decide) hxl82 (xc_0 hG) hce hcv hcl ?_
      have hS := hS9
      have ht_1 := ht
      refine lv_astore (lv' := [(5, .ref q9), (0, .ref t_p_), (1, .int 0), (2, .int a_), (3, .int b_), (4, .int c_)]) hx hb dL_asks_249 hl (by decide) rfl (fun ls hl => ?_)
      refine lv_sipush (v := (-20001)) hx hb dL_asks_251 (by decide) ?_
      refine W.widen (k := 4) (n := 24) (by omega) (by omega) ?_
      exact W.iret (v := (-20001)) hx hb hr (fun t ht hW => ⟨⟨(-20001), (ad_2, o_3, ()), rfl, ⟨hw, had_2⟩, ⟨P_at ht hP, hD⟩⟩, hS.F ht⟩) hS.2.2 dL_asks_254
    · refine vx_catch (own := RL) (name := "java/util/NoSuchElementException") (E := "java/util/NoSuchElementException") hown [⟨0, 100, 249, 82⟩, ⟨101, 111, 249, 82⟩, ⟨112, 122, 249, 82⟩, ⟨123, 129, 249, 82⟩, ⟨130, 138, 249, 82⟩, ⟨139, 145, 249, 82⟩, ⟨146, 154, 249, 82⟩, ⟨155, 161, 249, 82⟩, ⟨162, 168, 249, 82⟩, ⟨169, 174, 249, 82⟩, ⟨175, 179, 249, 82⟩, ⟨180, 185, 249, 82⟩, ⟨186, 195, 249, 82⟩, ⟨196, 202, 249, 82⟩, ⟨203, 209, 249, 82⟩, ⟨210, 216, 249, 82⟩, ⟨217, 221, 249, 82⟩, ⟨222, 228, 249, 82⟩, ⟨229, 239, 249, 82⟩, ⟨240, 248, 249, 82⟩] ⟨0, 100, 255, 84⟩ [⟨101, 111, 255, 84⟩, ⟨112, 122, 255, 84⟩, ⟨123, 129, 255, 84⟩, ⟨130, 138, 255, 84⟩, ⟨139, 145, 255, 84⟩, ⟨146, 154, 255, 84⟩, ⟨155, 161, 255, 84⟩, ⟨162, 168, 255, 84⟩, ⟨169, 174, 255, 84⟩, ⟨175, 179, 255, 84⟩, ⟨180, 185, 255, 84⟩, ⟨186, 195, 255, 84⟩, ⟨196, 202, 255, 84⟩, ⟨203, 209, 255, 84⟩, ⟨210, 216, 255, 84⟩, ⟨217, 221, 255, 84⟩, ⟨222, 228, 255, 84⟩, ⟨229, 239, 255, 84⟩, ⟨240, 248, 255, 84⟩, ⟨0, 100, 261, 86⟩, ⟨101, 111, 261, 86⟩, ⟨112, 122, 261, 86⟩, ⟨123, 129, 261, 86⟩, ⟨130, 138, 261, 86⟩, ⟨139, 145, 261, 86⟩, ⟨146, 154, 261, 86⟩, ⟨155, 161, 261, 86⟩, ⟨162, 168, 261, 86⟩, ⟨169, 174, 261, 86⟩, ⟨175, 179, 261, 86⟩, ⟨180, 185, 261, 86⟩, ⟨186, 195, 261, 86⟩, ⟨196, 202, 261, 86⟩, ⟨203, 209, 261, 86⟩, ⟨210, 216, 261, 86⟩, ⟨217, 221, 261, 86⟩, ⟨222, 228, 261, 86⟩, ⟨229, 239, 261, 86⟩, ⟨240, 248, 261, 86⟩, ⟨0, 100, 267, 88⟩, ⟨101, 111, 267, 88⟩, ⟨112, 122, 267, 88⟩, ⟨123, 129, 267, 88⟩, ⟨130, 138, 267, 88⟩, ⟨139, 145, 267, 88⟩, ⟨146, 154, 267, 88⟩, ⟨155, 161, 267, 88⟩, ⟨162, 168, 267, 88⟩, ⟨169, 174, 267, 88⟩, ⟨175, 179, 267, 88⟩, ⟨180, 185, 267, 88⟩, ⟨186, 195, 267, 88⟩, ⟨196, 202, 267, 88⟩, ⟨203, 209, 267, 88⟩, ⟨210, 216, 267, 88⟩, ⟨217, 221, 267, 88⟩, ⟨222, 228, 267, 88⟩, ⟨229, 239, 267, 88⟩, ⟨240, 248, 267, 88⟩] (by rw [hTab]; rfl) (fun z hz => (List.mem_cons.mp hz).elim (fun q => by subst q; exact Or.inr ⟨by decide, _, hxl82, nc_0 hG⟩) (fun hz => (List.mem_cons.mp hz).elim (fun q => by subst q; exact Or.inl (by decide)) (fun hz => (List.mem_cons.mp hz).elim (fun q => by subst q; exact Or.inl (by decide)) (fun hz => (List.mem_cons.mp hz).elim (fun q => by subst q; exact Or.inl (by decide)) (fun hz => (List.mem_cons.mp hz).elim (fun q => by subst q; exact Or.inl (by decide)) (fun hz => (List.mem_cons.mp hz).elim (fun q => by subst q; exact Or.inl (by decide)) (fun hz => (List.mem_cons.mp hz).elim (fun q => by subst q; exact Or.inl (by decide)) (fun hz => (List.mem_cons.mp hz).elim (fun q => by subst q; exact Or.inl (by decide)) (fun hz => (List.mem_cons.mp hz).elim (fun q => by subst q; exact Or.inl (by decide)) (fun hz => (List.mem_cons.mp hz).elim (fun q => by subst q; exact Or.inl (by decide)) (fun hz => (List.mem_cons.mp hz).elim (fun q => by subst q; exact Or.inl (by decide)) (fun hz => (List.mem_cons.mp hz).elim (fun q => by subst q; exact Or.inl (by decide)) (fun hz => (List.mem_cons.mp hz).elim (fun q => by subst q; exact Or.inl (by decide)) (fun hz => (List.mem_cons.mp hz).elim (fun q => by subst q; exact Or.inl (by decide)) (fun hz => (List.mem_cons.mp hz).elim (fun q => by subst q; exact Or.inl (by decide)) (fun hz => (List.mem_cons.mp hz).elim (fun q => by subst q; exact Or.inl (by decide)) (fun hz => (List.mem_cons.mp hz).elim (fun q => by subst q; exact Or.inl (by decide)) (fun hz => (List.mem_cons.mp hz).elim (fun q => by subst q; exact Or.inl (by decide)) (fun hz => (List.mem_cons.mp hz).elim (fun q => by subst q; exact Or.inl (by decide)) (fun hz => (List.mem_cons.mp hz).elim (fun q => by subst q; exact Or.inl (by decide)) (fun hz => absurd hz List.not_mem_nil))))))))))))))))))))) (by decide) (by decide) hxl84 (xc_3 hG) hce hcv hcl ?_
      have hS := hS9
      have ht_1 := ht
      refine lv_astore (lv' := [(5, .ref q9), (0, .ref t_p_), (1, .int 0), (2, .int a_), (3, .int b_), (4, .int c_)]) hx hb dL_asks_255 hl (by decide) rfl (fun ls hl => ?_)
      refine lv_sipush (v := (-20002)) hx hb dL_asks_257 (by decide) ?_
      refine W.widen (k := 4) (n := 24) (by omega) (by omega) ?_
      exact W.iret (v := (-20002)) hx hb hr (fun t ht hW => ⟨⟨(-20002), (ad_2, o_3, ()), rfl, ⟨hw, had_2⟩, ⟨P_at ht hP, hD⟩⟩, hS.F ht⟩) hS.2.2 dL_asks_260
    · refine vx_catch (own := RL) (name := "java/lang/IllegalArgumentException") (E := "java/lang/IllegalArgumentException") hown [⟨0, 100, 249, 82⟩, ⟨101, 111, 249, 82⟩, ⟨112, 122, 249, 82⟩, ⟨123, 129, 249, 82⟩, ⟨130, 138, 249, 82⟩, ⟨139, 145, 249, 82⟩, ⟨146, 154, 249, 82⟩, ⟨155, 161, 249, 82⟩, ⟨162, 168, 249, 82⟩, ⟨169, 174, 249, 82⟩, ⟨175, 179, 249, 82⟩, ⟨180, 185, 249, 82⟩, ⟨186, 195, 249, 82⟩, ⟨196, 202, 249, 82⟩, ⟨203, 209, 249, 82⟩, ⟨210, 216, 249, 82⟩, ⟨217, 221, 249, 82⟩, ⟨222, 228, 249, 82⟩, ⟨229, 239, 249, 82⟩, ⟨240, 248, 249, 82⟩, ⟨0, 100, 255, 84⟩, ⟨101, 111, 255, 84⟩, ⟨112, 122, 255, 84⟩, ⟨123, 129, 255, 84⟩, ⟨130, 138, 255, 84⟩, ⟨139, 145, 255, 84⟩, ⟨146, 154, 255, 84⟩, ⟨155, 161, 255, 84⟩, ⟨162, 168, 255, 84⟩, ⟨169, 174, 255, 84⟩, ⟨175, 179, 255, 84⟩, ⟨180, 185, 255, 84⟩, ⟨186, 195, 255, 84⟩, ⟨196, 202, 255, 84⟩, ⟨203, 209, 255, 84⟩, ⟨210, 216, 255, 84⟩, ⟨217, 221, 255, 84⟩, ⟨222, 228, 255, 84⟩, ⟨229, 239, 255, 84⟩, ⟨240, 248, 255, 84⟩] ⟨0, 100, 261, 86⟩ [⟨101, 111, 261, 86⟩, ⟨112, 122, 261, 86⟩, ⟨123, 129, 261, 86⟩, ⟨130, 138, 261, 86⟩, ⟨139, 145, 261, 86⟩, ⟨146, 154, 261, 86⟩, ⟨155, 161, 261, 86⟩, ⟨162, 168, 261, 86⟩, ⟨169, 174, 261, 86⟩, ⟨175, 179, 261, 86⟩, ⟨180, 185, 261, 86⟩, ⟨186, 195, 261, 86⟩, ⟨196, 202, 261, 86⟩, ⟨203, 209, 261, 86⟩, ⟨210, 216, 261, 86⟩, ⟨217, 221, 261, 86⟩, ⟨222, 228, 261, 86⟩, ⟨229, 239, 261, 86⟩, ⟨240, 248, 261, 86⟩, ⟨0, 100, 267, 88⟩, ⟨101, 111, 267, 88⟩, ⟨112, 122, 267, 88⟩, ⟨123, 129, 267, 88⟩, ⟨130, 138, 267, 88⟩, ⟨139, 145, 267, 88⟩, ⟨146, 154, 267, 88⟩, ⟨155, 161, 267, 88⟩, ⟨162, 168, 267, 88⟩, ⟨169, 174, 267, 88⟩, ⟨175, 179, 267, 88⟩, ⟨180, 185, 267, 88⟩, ⟨186, 195, 267, 88⟩, ⟨196, 202, 267, 88⟩, ⟨203, 209, 267, 88⟩, ⟨210, 216, 267, 88⟩, ⟨217, 221, 267, 88⟩, ⟨222, 228, 267, 88⟩, ⟨229, 239, 267, 88⟩, ⟨240, 248, 267, 88⟩] (by rw [hTab]; rfl) (fun z hz => (List.mem_cons.mp hz).elim (fun q => by subst q; exact Or.inr ⟨by decide, _, hxl82, nc_1 hG⟩) (fun hz => (List.mem_cons.mp hz).elim (fun q => by subst q; exact Or.inl (by decide)) (fun hz => (List.mem_cons.mp hz).elim (fun q => by subst q; exact Or.inl (by decide)) (fun hz => (List.mem_cons.mp hz).elim (fun q => by subst q; exact Or.inl (by decide)) (fun hz => (List.mem_cons.mp hz).elim (fun q => by subst q; exact Or.inl (by decide)) (fun hz => (List.mem_cons.mp hz).elim (fun q => by subst q; exact Or.inl (by decide)) (fun hz => (List.mem_cons.mp hz).elim (fun q => by subst q; exact Or.inl (by decide)) (fun hz => (List.mem_cons.mp hz).elim (fun q => by subst q; exact Or.inl (by decide)) (fun hz => (List.mem_cons.mp hz).elim (fun q => by subst q; exact Or.inl (by decide)) (fun hz => (List.mem_cons.mp hz).elim (fun q => by subst q; exact Or.inl (by decide)) (fun hz => (List.mem_cons.mp hz).elim (fun q => by subst q; exact Or.inl (by decide)) (fun hz => (List.mem_cons.mp hz).elim (fun q => by subst q; exact Or.inl (by decide)) (fun hz => (List.mem_cons.mp hz).elim (fun q => by subst q; exact Or.inl (by decide)) (fun hz => (List.mem_cons.mp hz).elim (fun q => by subst q; exact Or.inl (by decide)) (fun hz => (List.mem_cons.mp hz).elim (fun q => by subst q; exact Or.inl (by decide)) (fun hz => (List.mem_cons.mp hz).elim (fun q => by subst q; exact Or.inl (by decide)) (fun hz => (List.mem_cons.mp hz).elim (fun q => by subst q; exact Or.inl (by decide)) (fun hz => (List.mem_cons.mp hz).elim (fun q => by subst q; exact Or.inl (by decide)) (fun hz => (List.mem_cons.mp hz).elim (fun q => by subst q; exact Or.inl (by decide)) (fun hz => (List.mem_cons.mp hz).elim (fun q => by subst q; exact Or.inl (by decide)) (fun hz => (List.mem_cons.mp hz).elim (fun q => by subst q; exact Or.inr ⟨by decide, _, hxl84, nc_2 hG⟩) (fun hz => (List.mem_cons.mp hz).elim (fun q => by subst q; exact Or.inl (by decide)) (fun hz => (List.mem_cons.mp hz).elim (fun q => by subst q; exact Or.inl (by decide)) (fun hz => (List.mem_cons.mp hz).elim (fun q => by subst q; exact Or.inl (by decide)) (fun hz => (List.mem_cons.mp hz).elim (fun q => by subst q; exact Or.inl (by decide)) (fun hz => (List.mem_cons.mp hz).elim (fun q => by subst q; exact Or.inl (by decide)) (fun hz => (List.mem_cons.mp hz).elim (fun q => by subst q; exact Or.inl (by decide)) (fun hz => (List.mem_cons.mp hz).elim (fun q => by subst q; exact Or.inl (by decide)) (fun hz => (List.mem_cons.mp hz).elim (fun q => by subst q; exact Or.inl (by decide)) (fun hz => (List.mem_cons.mp hz).elim (fun q => by subst q; exact Or.inl (by decide)) (fun hz => (List.mem_cons.mp hz).elim (fun q => by subst q; exact Or.inl (by decide)) (fun hz => (List.mem_cons.mp hz).elim (fun q => by subst q; exact Or.inl (by decide)) (fun hz => (List.mem_cons.mp hz).elim (fun q => by subst q; exact Or.inl (by decide)) (fun hz => (List.mem_cons.mp hz).elim (fun q => by subst q; exact Or.inl (by decide)) (fun hz => (List.mem_cons.mp hz).elim (fun q => by subst q; exact Or.inl (by decide)) (fun hz => (List.mem_cons.mp hz).elim (fun q => by subst q; exact Or.inl (by decide)) (fun hz => (List.mem_cons.mp hz).elim (fun q => by subst q; exact Or.inl (by decide)) (fun hz => (List.mem_cons.mp hz).elim (fun q => by subst q; exact Or.inl (by decide)) (fun hz => (List.mem_cons.mp hz).elim (fun q => by subst q; exact Or.inl (by decide)) (fun hz => (List.mem_cons.mp hz).elim (fun q => by subst q; exact Or.inl (by decide)) (fun hz => absurd hz List.not_mem_nil))))))))))))))))))))))))))))))))))))))))) (by decide) (by decide) hxl86 (xc_1 hG) hce hcv hcl ?_
      have hS := hS9
      have ht_1 := ht
      refine lv_astore (lv' := [(5, .ref q9), (0, .ref t_p_), (1, .int 0), (2, .int a_), (3, .int b_), (4, .int c_)]) hx hb dL_asks_261 hl (by decide) rfl (fun ls hl => ?_)
      refine lv_sipush (v := (-20003)) hx hb dL_asks_263 (by decide) ?_
      refine W.widen (k := 4) (n := 24) (by omega) (by omega) ?_
      exact W.iret (v := (-20003)) hx hb hr (fun t ht hW => ⟨⟨(-20003), (ad_2, o_3, ()), rfl, ⟨hw, had_2⟩, ⟨P_at ht hP, hD⟩⟩, hS.F ht⟩) hS.2.2 dL_asks_266
    · refine vx_catch (own := RL) (name := "java/lang/IllegalStateException") (E := "java/lang/IllegalStateException") hown [⟨0, 100, 249, 82⟩, ⟨101, 111, 249, 82⟩, ⟨112, 122, 249, 82⟩, ⟨123, 129, 249, 82⟩, ⟨130, 138, 249, 82⟩, ⟨139, 145, 249, 82⟩, ⟨146, 154, 249, 82⟩, ⟨155, 161, 249, 82⟩, ⟨162, 168, 249, 82⟩, ⟨169, 174, 249, 82⟩, ⟨175, 179, 249, 82⟩, ⟨180, 185, 249, 82⟩, ⟨186, 195, 249, 82⟩, ⟨196, 202, 249, 82⟩, ⟨203, 209, 249, 82⟩, ⟨210, 216, 249, 82⟩, ⟨217, 221, 249, 82⟩, ⟨222, 228, 249, 82⟩, ⟨229, 239, 249, 82⟩, ⟨240, 248, 249, 82⟩, ⟨0, 100, 255, 84⟩, ⟨101, 111, 255, 84⟩, ⟨112, 122, 255, 84⟩, ⟨123, 129, 255, 84⟩, ⟨130, 138, 255, 84⟩, ⟨139, 145, 255, 84⟩, ⟨146, 154, 255, 84⟩, ⟨155, 161, 255, 84⟩, ⟨162, 168, 255, 84⟩, ⟨169, 174, 255, 84⟩, ⟨175, 179, 255, 84⟩, ⟨180, 185, 255, 84⟩, ⟨186, 195, 255, 84⟩, ⟨196, 202, 255, 84⟩, ⟨203, 209, 255, 84⟩, ⟨210, 216, 255, 84⟩, ⟨217, 221, 255, 84⟩, ⟨222, 228, 255, 84⟩, ⟨229, 239, 255, 84⟩, ⟨240, 248, 255, 84⟩, ⟨0, 100, 261, 86⟩, ⟨101, 111, 261, 86⟩, ⟨112, 122, 261, 86⟩, ⟨123, 129, 261, 86⟩, ⟨130, 138, 261, 86⟩, ⟨139, 145, 261, 86⟩, ⟨146, 154, 261, 86⟩, ⟨155, 161, 261, 86⟩, ⟨162, 168, 261, 86⟩, ⟨169, 174, 261, 86⟩, ⟨175, 179, 261, 86⟩, ⟨180, 185, 261, 86⟩, ⟨186, 195, 261, 86⟩, ⟨196, 202, 261, 86⟩, ⟨203, 209, 261, 86⟩, ⟨210, 216, 261, 86⟩, ⟨217, 221, 261, 86⟩, ⟨222, 228, 261, 86⟩, ⟨229, 239, 261, 86⟩, ⟨240, 248, 261, 86⟩] ⟨0, 100, 267, 88⟩ [⟨101, 111, 267, 88⟩, ⟨112, 122, 267, 88⟩, ⟨123, 129, 267, 88⟩, ⟨130, 138, 267, 88⟩, ⟨139, 145, 267, 88⟩, ⟨146, 154, 267, 88⟩, ⟨155, 161, 267, 88⟩, ⟨162, 168, 267, 88⟩, ⟨169, 174, 267, 88⟩, ⟨175, 179, 267, 88⟩, ⟨180, 185, 267, 88⟩, ⟨186, 195, 267, 88⟩, ⟨196, 202, 267, 88⟩, ⟨203, 209, 267, 88⟩, ⟨210, 216, 267, 88⟩, ⟨217, 221, 267, 88⟩, ⟨222, 228, 267, 88⟩, ⟨229, 239, 267, 88⟩, ⟨240, 248, 267, 88⟩] (by rw [hTab]; rfl) (fun z hz => (List.mem_cons.mp hz).elim (fun q => by subst q; exact Or.inr ⟨by decide, _, hxl82, nc_3 hG⟩) (fun hz => (List.mem_cons.mp hz).elim (fun q => by subst q; exact Or.inl (by decide)) (fun hz => (List.mem_cons.mp hz).elim (fun q => by subst q; exact Or.inl (by decide)) (fun hz => (List.mem_cons.mp hz).elim (fun q => by subst q; exact Or.inl (by decide)) (fun hz => (List.mem_cons.mp hz).elim (fun q => by subst q; exact Or.inl (by decide)) (fun hz => (List.mem_cons.mp hz).elim (fun q => by subst q; exact Or.inl (by decide)) (fun hz => (List.mem_cons.mp hz).elim (fun q => by subst q; exact Or.inl (by decide)) (fun hz => (List.mem_cons.mp hz).elim (fun q => by subst q; exact Or.inl (by decide)) (fun hz => (List.mem_cons.mp hz).elim (fun q => by subst q; exact Or.inl (by decide)) (fun hz => (List.mem_cons.mp hz).elim (fun q => by subst q; exact Or.inl (by decide)) (fun hz => (List.mem_cons.mp hz).elim (fun q => by subst q; exact Or.inl (by decide)) (fun hz => (List.mem_cons.mp hz).elim (fun q => by subst q; exact Or.inl (by decide)) (fun hz => (List.mem_cons.mp hz).elim (fun q => by subst q; exact Or.inl (by decide)) (fun hz => (List.mem_cons.mp hz).elim (fun q => by subst q; exact Or.inl (by decide)) (fun hz => (List.mem_cons.mp hz).elim (fun q => by subst q; exact Or.inl (by decide)) (fun hz => (List.mem_cons.mp hz).elim (fun q => by subst q; exact Or.inl (by decide)) (fun hz => (List.mem_cons.mp hz).elim (fun q => by subst q; exact Or.inl (by decide)) (fun hz => (List.mem_cons.mp hz).elim (fun q => by subst q; exact Or.inl (by decide)) (fun hz => (List.mem_cons.mp hz).elim (fun q => by subst q; exact Or.inl (by decide)) (fun hz => (List.mem_cons.mp hz).elim (fun q => by subst q; exact Or.inl (by decide)) (fun hz => (List.mem_cons.mp hz).elim (fun q => by subst q; exact Or.inr ⟨by decide, _, hxl84, nc_4 hG⟩) (fun hz => (List.mem_cons.mp hz).elim (fun q => by subst q; exact Or.inl (by decide)) (fun hz => (List.mem_cons.mp hz).elim (fun q => by subst q; exact Or.inl (by decide)) (fun hz => (List.mem_cons.mp hz).elim (fun q => by subst q; exact Or.inl (by decide)) (fun hz => (List.mem_cons.mp hz).elim (fun q => by subst q; exact Or.inl (by decide)) (fun hz => (List.mem_cons.mp hz).elim (fun q => by subst q; exact Or.inl (by decide)) (fun hz => (List.mem_cons.mp hz).elim (fun q => by subst q; exact Or.inl (by decide)) (fun hz => (List.mem_cons.mp hz).elim (fun q => by subst q; exact Or.inl (by decide)) (fun hz => (List.mem_cons.mp hz).elim (fun q => by subst q; exact Or.inl (by decide)) (fun hz => (List.mem_cons.mp hz).elim (fun q => by subst q; exact Or.inl (by decide)) (fun hz => (List.mem_cons.mp hz).elim (fun q => by subst q; exact Or.inl (by decide)) (fun hz => (List.mem_cons.mp hz).elim (fun q => by subst q; exact Or.inl (by decide)) (fun hz => (List.mem_cons.mp hz).elim (fun q => by subst q; exact Or.inl (by decide)) (fun hz => (List.mem_cons.mp hz).elim (fun q => by subst q; exact Or.inl (by decide)) (fun hz => (List.mem_cons.mp hz).elim (fun q => by subst q; exact Or.inl (by decide)) (fun hz => (List.mem_cons.mp hz).elim (fun q => by subst q; exact Or.inl (by decide)) (fun hz => (List.mem_cons.mp hz).elim (fun q => by subst q; exact Or.inl (by decide)) (fun hz => (List.mem_cons.mp hz).elim (fun q => by subst q; exact Or.inl (by decide)) (fun hz => (List.mem_cons.mp hz).elim (fun q => by subst q; exact Or.inl (by decide)) (fun hz => (List.mem_cons.mp hz).elim (fun q => by subst q; exact Or.inl (by decide)) (fun hz => (List.mem_cons.mp hz).elim (fun q => by subst q; exact Or.inr ⟨by decide, _, hxl86, nc_5 hG⟩) (fun hz => (List.mem_cons.mp hz).elim (fun q => by subst q; exact Or.inl (by decide)) (fun hz => (List.mem_cons.mp hz).elim (fun q => by subst q; exact Or.inl (by decide)) (fun hz => (List.mem_cons.mp hz).elim (fun q => by subst q; exact Or.inl (by decide)) (fun hz => (List.mem_cons.mp hz).elim (fun q => by subst q; exact Or.inl (by decide)) (fun hz => (List.mem_cons.mp hz).elim (fun q => by subst q; exact Or.inl (by decide)) (fun hz => (List.mem_cons.mp hz).elim (fun q => by subst q; exact Or.inl (by decide)) (fun hz => (List.mem_cons.mp hz).elim (fun q => by subst q; exact Or.inl (by decide)) (fun hz => (List.mem_cons.mp hz).elim (fun q => by subst q; exact Or.inl (by decide)) (fun hz => (List.mem_cons.mp hz).elim (fun q => by subst q; exact Or.inl (by decide)) (fun hz => (List.mem_cons.mp hz).elim (fun q => by subst q; exact Or.inl (by decide)) (fun hz => (List.mem_cons.mp hz).elim (fun q => by subst q; exact Or.inl (by decide)) (fun hz => (List.mem_cons.mp hz).elim (fun q => by subst q; exact Or.inl (by decide)) (fun hz => (List.mem_cons.mp hz).elim (fun q => by subst q; exact Or.inl (by decide)) (fun hz => (List.mem_cons.mp hz).elim (fun q => by subst q; exact Or.inl (by decide)) (fun hz => (List.mem_cons.mp hz).elim (fun q => by subst q; exact Or.inl (by decide)) (fun hz => (List.mem_cons.mp hz).elim (fun q => by subst q; exact Or.inl (by decide)) (fun hz => (List.mem_cons.mp hz).elim (fun q => by subst q; exact Or.inl (by decide)) (fun hz => (List.mem_cons.mp hz).elim (fun q => by subst q; exact Or.inl (by decide)) (fun hz => (List.mem_cons.mp hz).elim (fun q => by subst q; exact Or.inl (by decide)) (fun hz => absurd hz List.not_mem_nil))))))))))))))))))))))))))))))))))))))))))))))))))))))))))))) (by decide) (by decide) hxl88 (xc_2 hG) hce hcv hcl ?_
      have hS := hS9
      have ht_1 := ht
      refine lv_astore (lv' := [(5, .ref q9), (0, .ref t_p_), (1, .int 0), (2, .int a_), (3, .int b_), (4, .int c_)]) hx hb dL_asks_267 hl (by decide) rfl (fun ls hl => ?_)
      refine lv_sipush (v := (-20004)) hx hb dL_asks_269 (by decide) ?_
      refine W.widen (k := 4) (n := 24) (by omega) (by omega) ?_
      exact W.iret (v := (-20004)) hx hb hr (fun t ht hW => ⟨⟨(-20004), (ad_2, o_3, ()), rfl, ⟨hw, had_2⟩, ⟨P_at ht hP, hD⟩⟩, hS.F ht⟩) hS.2.2 dL_asks_272
  obtain ⟨ad_4, o_5⟩ := u_1
  obtain ⟨hw, had_4⟩ := hw_1
  rw [ht_1] at hB_1
  obtain ⟨hP1, hD1⟩ := hB_1
  obtain ⟨hP, hD⟩ := join_r hPs hDs hk_1 hFc hP1 hD1
  obtain ⟨hP, hD⟩ := seg_join [] [offS ad_4 tp_p_ hd_p_ tf_p_ cf_p_ g o_5] [offS ad_4 tp_p_ hd_p_ tf_p_ cf_p_ g o_5] 1 [0] rfl rfl (by decide) hP hD
  have hP : va_P (dC, dI) vwCl (offS ad_4 tp_p_ hd_p_ tf_p_ cf_p_ g o_5) H_1 := hP
  have hD : va_D A (offS ad_4 tp_p_ hd_p_ tf_p_ cf_p_ g o_5) := hD
  refine W.widen (k := 4) (n := 24) (by omega) (by omega) ?_
  refine W.widen (k := 4) (n := 24) (by omega) (by omega) ?_
  exact W.iret (v := r_1) hx hb hr (fun t ht hW => ⟨⟨r_1, (ad_4, o_5, ()), rfl, ⟨hw, had_4⟩, ⟨P_at ht hP, hD⟩⟩, hS.F ht⟩) hS.2.2 dL_asks_100
theorem dL_asks_101 : decode cL_asks 101 = .ok (.aload_n 0, 1) := by decide +kernel
theorem dL_asks_102 : decode cL_asks 102 = .ok (.iload_n 2, 1) := by decide +kernel
theorem dL_asks_103 : decode cL_asks 103 = .ok (.iload_n 3, 1) := by decide +kernel
theorem dL_asks_104 : decode cL_asks 104 = .ok (.iload 4, 2) := by decide +kernel
theorem dL_asks_106 : decode cL_asks 106 = .ok (.bipush 50, 2) := by decide +kernel
theorem dL_asks_108 : decode cL_asks 108 = .ok (.invokevirtual 23, 3) := by decide +kernel
theorem dL_asks_111 : decode cL_asks 111 = .ok (.ireturn, 1) := by decide +kernel

set_option maxHeartbeats 8000000 in
set_option maxRecDepth 100000 in
theorem c_L_asks_1 (l : Launch) (hlf : l.stackTraces = false) (dC : Nat → ClassId) (dI : Nat → Nat → Nat) (g : Nat → ClassId) (tp_p_ hd_p_ : Nat → Nat) (tf_p_ cf_p_ : Nat → Option Nat) (htf_p_ : ∀ j, j < 8 → tf_p_ j = some (tp_p_ j)) (hcf_p_ : ∀ j, j < 8 → cf_p_ j = some (tp_p_ (8 + j))) (a_p_ : Nat → Nat) (t_p_ : Nat) (h_p_ : a_p_ 0 = t_p_) (o_p_ : OS) (a_ : Int32) (b_ : Int32) (c_ : Int32) (Q : Int32 → OS → Prop) (hw : wp_L_asks_1 o_p_ a_ b_ c_ Q) (sz : Nat) : Met l yL_asks wqL_asks ({ frames := 8, cells := 6, slots := 36, locals := 131 }) (va_Pc [.ref t_p_, .int 1, .int a_, .int b_, .int c_] (PG (dC, dI) g (offS a_p_ tp_p_ hd_p_ tf_p_ cf_p_ g o_p_) sz)) (va_Qi (fun (r : Int32) (u : (Nat → Nat) × OS × Unit) => Q r u.2.1 ∧ u.1 0 = t_p_) (fun (u : (Nat → Nat) × OS × Unit) t9 => va_P (dC, dI) vwCl (offS u.1 tp_p_ hd_p_ tf_p_ cf_p_ g u.2.1) t9.heap ∧ va_D (va_A (offS a_p_ tp_p_ hd_p_ tf_p_ cf_p_ g o_p_) sz) (offS u.1 tp_p_ hd_p_ tf_p_ cf_p_ g u.2.1)) (va_A (offS a_p_ tp_p_ hd_p_ tf_p_ cf_p_ g o_p_) sz)) 6 36 (va_A (offS a_p_ tp_p_ hd_p_ tf_p_ cf_p_ g o_p_) sz) := by
  refine mt_ofWH (cc := cL_asks) (maxL := 6) (ret := (some .int)) (hh := [(0, 100, 249, 82), (101, 111, 249, 82), (112, 122, 249, 82), (123, 129, 249, 82), (130, 138, 249, 82), (139, 145, 249, 82), (146, 154, 249, 82), (155, 161, 249, 82), (162, 168, 249, 82), (169, 174, 249, 82), (175, 179, 249, 82), (180, 185, 249, 82), (186, 195, 249, 82), (196, 202, 249, 82), (203, 209, 249, 82), (210, 216, 249, 82), (217, 221, 249, 82), (222, 228, 249, 82), (229, 239, 249, 82), (240, 248, 249, 82), (0, 100, 255, 84), (101, 111, 255, 84), (112, 122, 255, 84), (123, 129, 255, 84), (130, 138, 255, 84), (139, 145, 255, 84), (146, 154, 255, 84), (155, 161, 255, 84), (162, 168, 255, 84), (169, 174, 255, 84), (175, 179, 255, 84), (180, 185, 255, 84), (186, 195, 255, 84), (196, 202, 255, 84), (203, 209, 255, 84), (210, 216, 255, 84), (217, 221, 255, 84), (222, 228, 255, 84), (229, 239, 255, 84), (240, 248, 255, 84), (0, 100, 261, 86), (101, 111, 261, 86), (112, 122, 261, 86), (123, 129, 261, 86), (130, 138, 261, 86), (139, 145, 261, 86), (146, 154, 261, 86), (155, 161, 261, 86), (162, 168, 261, 86), (169, 174, 261, 86), (175, 179, 261, 86), (180, 185, 261, 86), (186, 195, 261, 86), (196, 202, 261, 86), (203, 209, 261, 86), (210, 216, 261, 86), (217, 221, 261, 86), (222, 228, 261, 86), (229, 239, 261, 86), (240, 248, 261, 86), (0, 100, 267, 88), (101, 111, 267, 88), (112, 122, 267, 88), (123, 129, 267, 88), (130, 138, 267, 88), (139, 145, 267, 88), (146, 154, 267, 88), (155, 161, 267, 88), (162, 168, 267, 88), (169, 174, 267, 88), (175, 179, 267, 88), (180, 185, 267, 88), (186, 195, 267, 88), (196, 202, 267, 88), (203, 209, 267, 88), (210, 216, 267, 88), (217, 221, 267, 88), (222, 228, 267, 88), (229, 239, 267, 88), (240, 248, 267, 88)]) (by decide) rfl ?_
  intro p e s m args below meth c s₁ B hml hv
  obtain ⟨rfl, hsz, hP, hK, hD0, hG⟩ := hv
  have hx := B.exec
  have hb := B.bytes
  have hr := B.returns
  have hts := atoms_spec (ws := wqL_asks) B.pre
  have hown : s.vm.findClass RL = some m.cls := findClass_of_methodNamed B.named
  have hlocks := B.notSynchronized
  subst hsz
  have hD := hD0.self (sz := s.heap.size)
  generalize hAe : va_A (offS a_p_ tp_p_ hd_p_ tf_p_ cf_p_ g o_p_) s.heap.size = A at hD hG ⊢
  have hA : ∀ q : Nat, s.heap.size ≤ q → A q := fun q h => by rw [← hAe]; exact Or.inr h
  have hS : va_S A s.heap s.heap [] := va_S.rf
  have hrc : (headSpec wqL_asks ({ frames := 8, cells := 6, slots := 36, locals := 131 })).room.cells = 6 := rfl
  have hrs : (headSpec wqL_asks ({ frames := 8, cells := 6, slots := 36, locals := 131 })).room.slots = 36 := rfl
  have hTab := vx_table (x := yL_asks) B (hts (Cond.codeWith yL_asks cL_asks 6 (some .int) [(0, 100, 249, 82), (101, 111, 249, 82), (112, 122, 249, 82), (123, 129, 249, 82), (130, 138, 249, 82), (139, 145, 249, 82), (146, 154, 249, 82), (155, 161, 249, 82), (162, 168, 249, 82), (169, 174, 249, 82), (175, 179, 249, 82), (180, 185, 249, 82), (186, 195, 249, 82), (196, 202, 249, 82), (203, 209, 249, 82), (210, 216, 249, 82), (217, 221, 249, 82), (222, 228, 249, 82), (229, 239, 249, 82), (240, 248, 249, 82), (0, 100, 255, 84), (101, 111, 255, 84), (112, 122, 255, 84), (123, 129, 255, 84), (130, 138, 255, 84), (139, 145, 255, 84), (146, 154, 255, 84), (155, 161, 255, 84), (162, 168, 255, 84), (169, 174, 255, 84), (175, 179, 255, 84), (180, 185, 255, 84), (186, 195, 255, 84), (196, 202, 255, 84), (203, 209, 255, 84), (210, 216, 255, 84), (217, 221, 255, 84), (222, 228, 255, 84), (229, 239, 255, 84), (240, 248, 255, 84), (0, 100, 261, 86), (101, 111, 261, 86), (112, 122, 261, 86), (123, 129, 261, 86), (130, 138, 261, 86), (139, 145, 261, 86), (146, 154, 261, 86), (155, 161, 261, 86), (162, 168, 261, 86), (169, 174, 261, 86), (175, 179, 261, 86), (180, 185, 261, 86), (186, 195, 261, 86), (196, 202, 261, 86), (203, 209, 261, 86), (210, 216, 261, 86), (217, 221, 261, 86), (222, 228, 261, 86), (229, 239, 261, 86), (240, 248, 261, 86), (0, 100, 267, 88), (101, 111, 267, 88), (112, 122, 267, 88), (123, 129, 267, 88), (130, 138, 267, 88), (139, 145, 267, 88), (146, 154, 267, 88), (155, 161, 267, 88), (162, 168, 267, 88), (169, 174, 267, 88), (175, 179, 267, 88), (180, 185, 267, 88), (186, 195, 267, 88), (196, 202, 267, 88), (203, 209, 267, 88), (210, 216, 267, 88), (217, 221, 267, 88), (222, 228, 267, 88), (229, 239, 267, 88), (240, 248, 267, 88)]) (List.mem_cons_self))
  have hl := lv_entry ([.ref t_p_, .int 1, .int a_, .int b_, .int c_]) (n := 6) (Nat.le_of_ble_eq_true rfl)
  rw [lg_entry_eq]
  generalize (lg_sl ([.ref t_p_, .int 1, .int a_, .int b_, .int c_]) ++ List.replicate (6 - (lg_sl ([.ref t_p_, .int 1, .int a_, .int b_, .int c_])).length) Slot.unset).toArray = ls at hl ⊢
  have hl : lv_has ls 6 [(0, .ref t_p_), (1, .int 1), (2, .int a_), (3, .int b_), (4, .int c_)] := hl
  unfold wp_L_asks_1 at hw
  have hxl82 := hts (Cond.classLink RL 82 "java/lang/IndexOutOfBoundsException") (aw_l aw_4_48)
  have hxl84 := hts (Cond.classLink RL 84 "java/util/NoSuchElementException") (aw_l aw_4_49)
  have hxl86 := hts (Cond.classLink RL 86 "java/lang/IllegalArgumentException") (aw_l aw_4_50)
  have hxl88 := hts (Cond.classLink RL 88 "java/lang/IllegalStateException") (aw_l aw_4_51)
  refine lv_iload_n hx hb dL_asks_0 rfl (lv_at hl 1 rfl) ?_
  refine lv_tableIn (tgt := 101) hx hb dL_asks_1 (by decide) (by decide) rfl (by decide) ?_
  refine lv_aload_n hx hb dL_asks_101 rfl (lv_at hl 0 rfl) ?_
  refine lv_iload_n hx hb dL_asks_102 rfl (lv_at hl 2 rfl) ?_
  refine lv_iload_n hx hb dL_asks_103 rfl (lv_at hl 3 rfl) ?_
  refine lv_iload hx hb dL_asks_104 (lv_at hl 4 rfl) ?_
  refine lv_bipush (v := 50) hx hb dL_asks_106 (by decide) ?_
  obtain ⟨hPs, hDs⟩ := seg_call (segs := [offS a_p_ tp_p_ hd_p_ tf_p_ cf_p_ g o_p_]) [] [offS a_p_ tp_p_ hd_p_ tf_p_ cf_p_ g o_p_] 1 [0] rfl rfl (by decide) hP hD
  have hPc : va_P (dC, dI) vwCl (offS a_p_ tp_p_ hd_p_ tf_p_ cf_p_ g o_p_) s.heap := P_r hPs
  have hDc : va_D A (offS a_p_ tp_p_ hd_p_ tf_p_ cf_p_ g o_p_) := D_r hDs
  have hFc : ∀ q, va_A (offS a_p_ tp_p_ hd_p_ tf_p_ cf_p_ g o_p_) s.heap.size q → A q := A_all hDc hA hS.1
  refine vx_calli (vx_runV (As := [.int a_, .int b_, .int c_, .int 50]) (rest := []) ⟨hx, hb, hml, hown, hts⟩ (p_fill l hlf dC dI g tp_p_ hd_p_ tf_p_ cf_p_ htf_p_ hcf_p_ a_p_ t_p_ h_p_ o_p_ a_ b_ c_ 50 (hw := hw) (sz := s.heap.size)) (cwV 4 hts (gqV aw_3_66 aw_3_67 aw_3_68 aw_1_1 aw_3_69) rfl rfl rfl (by decide +kernel) ⟨Nat.le_of_ble_eq_true rfl, Nat.le_of_ble_eq_true rfl⟩) ⟨PG_blind, off_recv h_p_ hK hPc, PG_call hK hG hS hPc hDc hFc⟩ rfl rfl hl.1 rfl (lv_room (Nat.le_of_ble_eq_true rfl)) dL_asks_108 ⟨by rw [hrc]; omega, by rw [hrs]; omega⟩) hS (fun q _ h => hFc q h) hFc (fun q _ h => hFc q h) (fun E ce q9 ux t H1 locs1 ht hvm hp9 hB9 hz hk hS9 hce hcv hcl => ?_) (fun r_1 u_1 t_1 H_1 L_1 ht_1 hvm_1 hw_1 hB_1 hz_1 hk_1 hS => ?_)
  · obtain ⟨ad_2, o_3⟩ := ux
    obtain ⟨⟨hw9, had_2⟩, hB9⟩ := hB9
    rw [ht] at hB9
    obtain ⟨hP1, hD1⟩ := hB9
    obtain ⟨hP, hD⟩ := join_r hPs hDs hk hFc hP1 hD1
    obtain ⟨hP, hD⟩ := seg_join [] [offS ad_2 tp_p_ hd_p_ tf_p_ cf_p_ g o_3] [offS ad_2 tp_p_ hd_p_ tf_p_ cf_p_ g o_3] 1 [0] rfl rfl (by decide) hP hD
    have hP : va_P (dC, dI) vwCl (offS ad_2 tp_p_ hd_p_ tf_p_ cf_p_ g o_3) H1 := hP
    have hD : va_D A (offS ad_2 tp_p_ hd_p_ tf_p_ cf_p_ g o_3) := hD
    rcases hw9 with ⟨rfl, hw⟩ | ⟨rfl, hw⟩ | ⟨rfl, hw⟩ | ⟨rfl, hw⟩
    · refine vx_catch (own := RL) (name := "java/lang/IndexOutOfBoundsException") (E := "java/lang/IndexOutOfBoundsException") hown [⟨0, 100, 249, 82⟩] ⟨101, 111, 249, 82⟩ [⟨112, 122, 249, 82⟩, ⟨123, 129, 249, 82⟩, ⟨130, 138, 249, 82⟩, ⟨139, 145, 249, 82⟩, ⟨146, 154, 249, 82⟩, ⟨155, 161, 249, 82⟩, ⟨162, 168, 249, 82⟩, ⟨169, 174, 249, 82⟩, ⟨175, 179, 249, 82⟩, ⟨180, 185, 249, 82⟩, ⟨186, 195, 249, 82⟩, ⟨196, 202, 249, 82⟩, ⟨203, 209, 249, 82⟩, ⟨210, 216, 249, 82⟩, ⟨217, 221, 249, 82⟩, ⟨222, 228, 249, 82⟩, ⟨229, 239, 249, 82⟩, ⟨240, 248, 249, 82⟩, ⟨0, 100, 255, 84⟩, ⟨101, 111, 255, 84⟩, ⟨112, 122, 255, 84⟩, ⟨123, 129, 255, 84⟩, ⟨130, 138, 255, 84⟩, ⟨139, 145, 255, 84⟩, ⟨146, 154, 255, 84⟩, ⟨155, 161, 255, 84⟩, ⟨162, 168, 255, 84⟩, ⟨169, 174, 255, 84⟩, ⟨175, 179, 255, 84⟩, ⟨180, 185, 255, 84⟩, ⟨186, 195, 255, 84⟩, ⟨196, 202, 255, 84⟩, ⟨203, 209, 255, 84⟩, ⟨210, 216, 255, 84⟩, ⟨217, 221, 255, 84⟩, ⟨222, 228, 255, 84⟩, ⟨229, 239, 255, 84⟩, ⟨240, 248, 255, 84⟩, ⟨0, 100, 261, 86⟩, ⟨101, 111, 261, 86⟩, ⟨112, 122, 261, 86⟩, ⟨123, 129, 261, 86⟩, ⟨130, 138, 261, 86⟩, ⟨139, 145, 261, 86⟩, ⟨146, 154, 261, 86⟩, ⟨155, 161, 261, 86⟩, ⟨162, 168, 261, 86⟩, ⟨169, 174, 261, 86⟩, ⟨175, 179, 261, 86⟩, ⟨180, 185, 261, 86⟩, ⟨186, 195, 261, 86⟩, ⟨196, 202, 261, 86⟩, ⟨203, 209, 261, 86⟩, ⟨210, 216, 261, 86⟩, ⟨217, 221, 261, 86⟩, ⟨222, 228, 261, 86⟩, ⟨229, 239, 261, 86⟩, ⟨240, 248, 261, 86⟩, ⟨0, 100, 267, 88⟩, ⟨101, 111, 267, 88⟩, ⟨112, 122, 267, 88⟩, ⟨123, 129, 267, 88⟩, ⟨130, 138, 267, 88⟩, ⟨139, 145, 267, 88⟩, ⟨146, 154, 267, 88⟩, ⟨155, 161, 267, 88⟩, ⟨162, 168, 267, 88⟩, ⟨169, 174, 267, 88⟩, ⟨175, 179, 267, 88⟩, ⟨180, 185, 267, 88⟩, ⟨186, 195, 267, 88⟩, ⟨196, 202, 267, 88⟩, ⟨203, 209, 267, 88⟩, ⟨210, 216, 267, 88⟩, ⟨217, 221, 267, 88⟩, ⟨222, 228, 267, 88⟩, ⟨229, 239, 267, 88⟩, ⟨240, 248, 267, 88⟩] (by rw [hTab]; rfl) (fun z hz => (List.mem_cons.mp hz).elim (fun q => by subst q; exact Or.inl (by decide)) (fun hz => absurd hz List.not_mem_nil)) (by decide) (by decide) hxl82 (xc_0 hG) hce hcv hcl ?_
      have hS := hS9
      have ht_1 := ht
      refine lv_astore (lv' := [(5, .ref q9), (0, .ref t_p_), (1, .int 1), (2, .int a_), (3, .int b_), (4, .int c_)]) hx hb dL_asks_249 hl (by decide) rfl (fun ls hl => ?_)
      refine lv_sipush (v := (-20001)) hx hb dL_asks_251 (by decide) ?_
      refine W.widen (k := 6) (n := 36) (by omega) (by omega) ?_
      exact W.iret (v := (-20001)) hx hb hr (fun t ht hW => ⟨⟨(-20001), (ad_2, o_3, ()), rfl, ⟨hw, had_2⟩, ⟨P_at ht hP, hD⟩⟩, hS.F ht⟩) hS.2.2 dL_asks_254
    · refine vx_catch (own := RL) (name := "java/util/NoSuchElementException") (E := "java/util/NoSuchElementException") hown [⟨0, 100, 249, 82⟩, ⟨101, 111, 249, 82⟩, ⟨112, 122, 249, 82⟩, ⟨123, 129, 249, 82⟩, ⟨130, 138, 249, 82⟩, ⟨139, 145, 249, 82⟩, ⟨146, 154, 249, 82⟩, ⟨155, 161, 249, 82⟩, ⟨162, 168, 249, 82⟩, ⟨169, 174, 249, 82⟩, ⟨175, 179, 249, 82⟩, ⟨180, 185, 249, 82⟩, ⟨186, 195, 249, 82⟩, ⟨196, 202, 249, 82⟩, ⟨203, 209, 249, 82⟩, ⟨210, 216, 249, 82⟩, ⟨217, 221, 249, 82⟩, ⟨222, 228, 249, 82⟩, ⟨229, 239, 249, 82⟩, ⟨240, 248, 249, 82⟩, ⟨0, 100, 255, 84⟩] ⟨101, 111, 255, 84⟩ [⟨112, 122, 255, 84⟩, ⟨123, 129, 255, 84⟩, ⟨130, 138, 255, 84⟩, ⟨139, 145, 255, 84⟩, ⟨146, 154, 255, 84⟩, ⟨155, 161, 255, 84⟩, ⟨162, 168, 255, 84⟩, ⟨169, 174, 255, 84⟩, ⟨175, 179, 255, 84⟩, ⟨180, 185, 255, 84⟩, ⟨186, 195, 255, 84⟩, ⟨196, 202, 255, 84⟩, ⟨203, 209, 255, 84⟩, ⟨210, 216, 255, 84⟩, ⟨217, 221, 255, 84⟩, ⟨222, 228, 255, 84⟩, ⟨229, 239, 255, 84⟩, ⟨240, 248, 255, 84⟩, ⟨0, 100, 261, 86⟩, ⟨101, 111, 261, 86⟩, ⟨112, 122, 261, 86⟩, ⟨123, 129, 261, 86⟩, ⟨130, 138, 261, 86⟩, ⟨139, 145, 261, 86⟩, ⟨146, 154, 261, 86⟩, ⟨155, 161, 261, 86⟩, ⟨162, 168, 261, 86⟩, ⟨169, 174, 261, 86⟩, ⟨175, 179, 261, 86⟩, ⟨180, 185, 261, 86⟩, ⟨186, 195, 261, 86⟩, ⟨196, 202, 261, 86⟩, ⟨203, 209, 261, 86⟩, ⟨210, 216, 261, 86⟩, ⟨217, 221, 261, 86⟩, ⟨222, 228, 261, 86⟩, ⟨229, 239, 261, 86⟩, ⟨240, 248, 261, 86⟩, ⟨0, 100, 267, 88⟩, ⟨101, 111, 267, 88⟩, ⟨112, 122, 267, 88⟩, ⟨123, 129, 267, 88⟩, ⟨130, 138, 267, 88⟩, ⟨139, 145, 267, 88⟩, ⟨146, 154, 267, 88⟩, ⟨155, 161, 267, 88⟩, ⟨162, 168, 267, 88⟩, ⟨169, 174, 267, 88⟩, ⟨175, 179, 267, 88⟩, ⟨180, 185, 267, 88⟩, ⟨186, 195, 267, 88⟩, ⟨196, 202, 267, 88⟩, ⟨203, 209, 267, 88⟩, ⟨210, 216, 267, 88⟩, ⟨217, 221, 267, 88⟩, ⟨222, 228, 267, 88⟩, ⟨229, 239, 267, 88⟩, ⟨240, 248, 267, 88⟩] (by rw [hTab]; rfl) (fun z hz => (List.mem_cons.mp hz).elim (fun q => by subst q; exact Or.inl (by decide)) (fun hz => (List.mem_cons.mp hz).elim (fun q => by subst q; exact Or.inr ⟨by decide, _, hxl82, nc_0 hG⟩) (fun hz => (List.mem_cons.mp hz).elim (fun q => by subst q; exact Or.inl (by decide)) (fun hz => (List.mem_cons.mp hz).elim (fun q => by subst q; exact Or.inl (by decide)) (fun hz => (List.mem_cons.mp hz).elim (fun q => by subst q; exact Or.inl (by decide)) (fun hz => (List.mem_cons.mp hz).elim (fun q => by subst q; exact Or.inl (by decide)) (fun hz => (List.mem_cons.mp hz).elim (fun q => by subst q; exact Or.inl (by decide)) (fun hz => (List.mem_cons.mp hz).elim (fun q => by subst q; exact Or.inl (by decide)) (fun hz => (List.mem_cons.mp hz).elim (fun q => by subst q; exact Or.inl (by decide)) (fun hz => (List.mem_cons.mp hz).elim (fun q => by subst q; exact Or.inl (by decide)) (fun hz => (List.mem_cons.mp hz).elim (fun q => by subst q; exact Or.inl (by decide)) (fun hz => (List.mem_cons.mp hz).elim (fun q => by subst q; exact Or.inl (by decide)) (fun hz => (List.mem_cons.mp hz).elim (fun q => by subst q; exact Or.inl (by decide)) (fun hz => (List.mem_cons.mp hz).elim (fun q => by subst q; exact Or.inl (by decide)) (fun hz => (List.mem_cons.mp hz).elim (fun q => by subst q; exact Or.inl (by decide)) (fun hz => (List.mem_cons.mp hz).elim (fun q => by subst q; exact Or.inl (by decide)) (fun hz => (List.mem_cons.mp hz).elim (fun q => by subst q; exact Or.inl (by decide)) (fun hz => (List.mem_cons.mp hz).elim (fun q => by subst q; exact Or.inl (by decide)) (fun hz => (List.mem_cons.mp hz).elim (fun q => by subst q; exact Or.inl (by decide)) (fun hz => (List.mem_cons.mp hz).elim (fun q => by subst q; exact Or.inl (by decide)) (fun hz => (List.mem_cons.mp hz).elim (fun q => by subst q; exact Or.inl (by decide)) (fun hz => absurd hz List.not_mem_nil)))))))))))))))))))))) (by decide) (by decide) hxl84 (xc_3 hG) hce hcv hcl ?_
      have hS := hS9
      have ht_1 := ht
      refine lv_astore (lv' := [(5, .ref q9), (0, .ref t_p_), (1, .int 1), (2, .int a_), (3, .int b_), (4, .int c_)]) hx hb dL_asks_255 hl (by decide) rfl (fun ls hl => ?_)
      refine lv_sipush (v := (-20002)) hx hb dL_asks_257 (by decide) ?_
      refine W.widen (k := 6) (n := 36) (by omega) (by omega) ?_
      exact W.iret (v := (-20002)) hx hb hr (fun t ht hW => ⟨⟨(-20002), (ad_2, o_3, ()), rfl, ⟨hw, had_2⟩, ⟨P_at ht hP, hD⟩⟩, hS.F ht⟩) hS.2.2 dL_asks_260
    · refine vx_catch (own := RL) (name := "java/lang/IllegalArgumentException") (E := "java/lang/IllegalArgumentException") hown [⟨0, 100, 249, 82⟩, ⟨101, 111, 249, 82⟩, ⟨112, 122, 249, 82⟩, ⟨123, 129, 249, 82⟩, ⟨130, 138, 249, 82⟩, ⟨139, 145, 249, 82⟩, ⟨146, 154, 249, 82⟩, ⟨155, 161, 249, 82⟩, ⟨162, 168, 249, 82⟩, ⟨169, 174, 249, 82⟩, ⟨175, 179, 249, 82⟩, ⟨180, 185, 249, 82⟩, ⟨186, 195, 249, 82⟩, ⟨196, 202, 249, 82⟩, ⟨203, 209, 249, 82⟩, ⟨210, 216, 249, 82⟩, ⟨217, 221, 249, 82⟩, ⟨222, 228, 249, 82⟩, ⟨229, 239, 249, 82⟩, ⟨240, 248, 249, 82⟩, ⟨0, 100, 255, 84⟩, ⟨101, 111, 255, 84⟩, ⟨112, 122, 255, 84⟩, ⟨123, 129, 255, 84⟩, ⟨130, 138, 255, 84⟩, ⟨139, 145, 255, 84⟩, ⟨146, 154, 255, 84⟩, ⟨155, 161, 255, 84⟩, ⟨162, 168, 255, 84⟩, ⟨169, 174, 255, 84⟩, ⟨175, 179, 255, 84⟩, ⟨180, 185, 255, 84⟩, ⟨186, 195, 255, 84⟩, ⟨196, 202, 255, 84⟩, ⟨203, 209, 255, 84⟩, ⟨210, 216, 255, 84⟩, ⟨217, 221, 255, 84⟩, ⟨222, 228, 255, 84⟩, ⟨229, 239, 255, 84⟩, ⟨240, 248, 255, 84⟩, ⟨0, 100, 261, 86⟩] ⟨101, 111, 261, 86⟩ [⟨112, 122, 261, 86⟩, ⟨123, 129, 261, 86⟩, ⟨130, 138, 261, 86⟩, ⟨139, 145, 261, 86⟩, ⟨146, 154, 261, 86⟩, ⟨155, 161, 261, 86⟩, ⟨162, 168, 261, 86⟩, ⟨169, 174, 261, 86⟩, ⟨175, 179, 261, 86⟩, ⟨180, 185, 261, 86⟩, ⟨186, 195, 261, 86⟩, ⟨196, 202, 261, 86⟩, ⟨203, 209, 261, 86⟩, ⟨210, 216, 261, 86⟩, ⟨217, 221, 261, 86⟩, ⟨222, 228, 261, 86⟩, ⟨229, 239, 261, 86⟩, ⟨240, 248, 261, 86⟩, ⟨0, 100, 267, 88⟩, ⟨101, 111, 267, 88⟩, ⟨112, 122, 267, 88⟩, ⟨123, 129, 267, 88⟩, ⟨130, 138, 267, 88⟩, ⟨139, 145, 267, 88⟩, ⟨146, 154, 267, 88⟩, ⟨155, 161, 267, 88⟩, ⟨162, 168, 267, 88⟩, ⟨169, 174, 267, 88⟩, ⟨175, 179, 267, 88⟩, ⟨180, 185, 267, 88⟩, ⟨186, 195, 267, 88⟩, ⟨196, 202, 267, 88⟩, ⟨203, 209, 267, 88⟩, ⟨210, 216, 267, 88⟩, ⟨217, 221, 267, 88⟩, ⟨222, 228, 267, 88⟩, ⟨229, 239, 267, 88⟩, ⟨240, 248, 267, 88⟩] (by rw [hTab]; rfl) (fun z hz => (List.mem_cons.mp hz).elim (fun q => by subst q; exact Or.inl (by decide)) (fun hz => (List.mem_cons.mp hz).elim (fun q => by subst q; exact Or.inr ⟨by decide, _, hxl82, nc_1 hG⟩) (fun hz => (List.mem_cons.mp hz).elim (fun q => by subst q; exact Or.inl (by decide)) (fun hz => (List.mem_cons.mp hz).elim (fun q => by subst q; exact Or.inl (by decide)) (fun hz => (List.mem_cons.mp hz).elim (fun q => by subst q; exact Or.inl (by decide)) (fun hz => (List.mem_cons.mp hz).elim (fun q => by subst q; exact Or.inl (by decide)) (fun hz => (List.mem_cons.mp hz).elim (fun q => by subst q; exact Or.inl (by decide)) (fun hz => (List.mem_cons.mp hz).elim (fun q => by subst q; exact Or.inl (by decide)) (fun hz => (List.mem_cons.mp hz).elim (fun q => by subst q; exact Or.inl (by decide)) (fun hz => (List.mem_cons.mp hz).elim (fun q => by subst q; exact Or.inl (by decide)) (fun hz => (List.mem_cons.mp hz).elim (fun q => by subst q; exact Or.inl (by decide)) (fun hz => (List.mem_cons.mp hz).elim (fun q => by subst q; exact Or.inl (by decide)) (fun hz => (List.mem_cons.mp hz).elim (fun q => by subst q; exact Or.inl (by decide)) (fun hz => (List.mem_cons.mp hz).elim (fun q => by subst q; exact Or.inl (by decide)) (fun hz => (List.mem_cons.mp hz).elim (fun q => by subst q; exact Or.inl (by decide)) (fun hz => (List.mem_cons.mp hz).elim (fun q => by subst q; exact Or.inl (by decide)) (fun hz => (List.mem_cons.mp hz).elim (fun q => by subst q; exact Or.inl (by decide)) (fun hz => (List.mem_cons.mp hz).elim (fun q => by subst q; exact Or.inl (by decide)) (fun hz => (List.mem_cons.mp hz).elim (fun q => by subst q; exact Or.inl (by decide)) (fun hz => (List.mem_cons.mp hz).elim (fun q => by subst q; exact Or.inl (by decide)) (fun hz => (List.mem_cons.mp hz).elim (fun q => by subst q; exact Or.inl (by decide)) (fun hz => (List.mem_cons.mp hz).elim (fun q => by subst q; exact Or.inr ⟨by decide, _, hxl84, nc_2 hG⟩) (fun hz => (List.mem_cons.mp hz).elim (fun q => by subst q; exact Or.inl (by decide)) (fun hz => (List.mem_cons.mp hz).elim (fun q => by subst q; exact Or.inl (by decide)) (fun hz => (List.mem_cons.mp hz).elim (fun q => by subst q; exact Or.inl (by decide)) (fun hz => (List.mem_cons.mp hz).elim (fun q => by subst q; exact Or.inl (by decide)) (fun hz => (List.mem_cons.mp hz).elim (fun q => by subst q; exact Or.inl (by decide)) (fun hz => (List.mem_cons.mp hz).elim (fun q => by subst q; exact Or.inl (by decide)) (fun hz => (List.mem_cons.mp hz).elim (fun q => by subst q; exact Or.inl (by decide)) (fun hz => (List.mem_cons.mp hz).elim (fun q => by subst q; exact Or.inl (by decide)) (fun hz => (List.mem_cons.mp hz).elim (fun q => by subst q; exact Or.inl (by decide)) (fun hz => (List.mem_cons.mp hz).elim (fun q => by subst q; exact Or.inl (by decide)) (fun hz => (List.mem_cons.mp hz).elim (fun q => by subst q; exact Or.inl (by decide)) (fun hz => (List.mem_cons.mp hz).elim (fun q => by subst q; exact Or.inl (by decide)) (fun hz => (List.mem_cons.mp hz).elim (fun q => by subst q; exact Or.inl (by decide)) (fun hz => (List.mem_cons.mp hz).elim (fun q => by subst q; exact Or.inl (by decide)) (fun hz => (List.mem_cons.mp hz).elim (fun q => by subst q; exact Or.inl (by decide)) (fun hz => (List.mem_cons.mp hz).elim (fun q => by subst q; exact Or.inl (by decide)) (fun hz => (List.mem_cons.mp hz).elim (fun q => by subst q; exact Or.inl (by decide)) (fun hz => (List.mem_cons.mp hz).elim (fun q => by subst q; exact Or.inl (by decide)) (fun hz => (List.mem_cons.mp hz).elim (fun q => by subst q; exact Or.inl (by decide)) (fun hz => absurd hz List.not_mem_nil)))))))))))))))))))))))))))))))))))))))))) (by decide) (by decide) hxl86 (xc_1 hG) hce hcv hcl ?_
      have hS := hS9
      have ht_1 := ht
      refine lv_astore (lv' := [(5, .ref q9), (0, .ref t_p_), (1, .int 1), (2, .int a_), (3, .int b_), (4, .int c_)]) hx hb dL_asks_261 hl (by decide) rfl (fun ls hl => ?_)
      refine lv_sipush (v := (-20003)) hx hb dL_asks_263 (by decide) ?_
      refine W.widen (k := 6) (n := 36) (by omega) (by omega) ?_
      exact W.iret (v := (-20003)) hx hb hr (fun t ht hW => ⟨⟨(-20003), (ad_2, o_3, ()), rfl, ⟨hw, had_2⟩, ⟨P_at ht hP, hD⟩⟩, hS.F ht⟩) hS.2.2 dL_asks_266
    · refine vx_catch (own := RL) (name := "java/lang/IllegalStateException") (E := "java/lang/IllegalStateException") hown [⟨0, 100, 249, 82⟩, ⟨101, 111, 249, 82⟩, ⟨112, 122, 249, 82⟩, ⟨123, 129, 249, 82⟩, ⟨130, 138, 249, 82⟩, ⟨139, 145, 249, 82⟩, ⟨146, 154, 249, 82⟩, ⟨155, 161, 249, 82⟩, ⟨162, 168, 249, 82⟩, ⟨169, 174, 249, 82⟩, ⟨175, 179, 249, 82⟩, ⟨180, 185, 249, 82⟩, ⟨186, 195, 249, 82⟩, ⟨196, 202, 249, 82⟩, ⟨203, 209, 249, 82⟩, ⟨210, 216, 249, 82⟩, ⟨217, 221, 249, 82⟩, ⟨222, 228, 249, 82⟩, ⟨229, 239, 249, 82⟩, ⟨240, 248, 249, 82⟩, ⟨0, 100, 255, 84⟩, ⟨101, 111, 255, 84⟩, ⟨112, 122, 255, 84⟩, ⟨123, 129, 255, 84⟩, ⟨130, 138, 255, 84⟩, ⟨139, 145, 255, 84⟩, ⟨146, 154, 255, 84⟩, ⟨155, 161, 255, 84⟩, ⟨162, 168, 255, 84⟩, ⟨169, 174, 255, 84⟩, ⟨175, 179, 255, 84⟩, ⟨180, 185, 255, 84⟩, ⟨186, 195, 255, 84⟩, ⟨196, 202, 255, 84⟩, ⟨203, 209, 255, 84⟩, ⟨210, 216, 255, 84⟩, ⟨217, 221, 255, 84⟩, ⟨222, 228, 255, 84⟩, ⟨229, 239, 255, 84⟩, ⟨240, 248, 255, 84⟩, ⟨0, 100, 261, 86⟩, ⟨101, 111, 261, 86⟩, ⟨112, 122, 261, 86⟩, ⟨123, 129, 261, 86⟩, ⟨130, 138, 261, 86⟩, ⟨139, 145, 261, 86⟩, ⟨146, 154, 261, 86⟩, ⟨155, 161, 261, 86⟩, ⟨162, 168, 261, 86⟩, ⟨169, 174, 261, 86⟩, ⟨175, 179, 261, 86⟩, ⟨180, 185, 261, 86⟩, ⟨186, 195, 261, 86⟩, ⟨196, 202, 261, 86⟩, ⟨203, 209, 261, 86⟩, ⟨210, 216, 261, 86⟩, ⟨217, 221, 261, 86⟩, ⟨222, 228, 261, 86⟩, ⟨229, 239, 261, 86⟩, ⟨240, 248, 261, 86⟩, ⟨0, 100, 267, 88⟩] ⟨101, 111, 267, 88⟩ [⟨112, 122, 267, 88⟩, ⟨123, 129, 267, 88⟩, ⟨130, 138, 267, 88⟩, ⟨139, 145, 267, 88⟩, ⟨146, 154, 267, 88⟩, ⟨155, 161, 267, 88⟩, ⟨162, 168, 267, 88⟩, ⟨169, 174, 267, 88⟩, ⟨175, 179, 267, 88⟩, ⟨180, 185, 267, 88⟩, ⟨186, 195, 267, 88⟩, ⟨196, 202, 267, 88⟩, ⟨203, 209, 267, 88⟩, ⟨210, 216, 267, 88⟩, ⟨217, 221, 267, 88⟩, ⟨222, 228, 267, 88⟩, ⟨229, 239, 267, 88⟩, ⟨240, 248, 267, 88⟩] (by rw [hTab]; rfl) (fun z hz => (List.mem_cons.mp hz).elim (fun q => by subst q; exact Or.inl (by decide)) (fun hz => (List.mem_cons.mp hz).elim (fun q => by subst q; exact Or.inr ⟨by decide, _, hxl82, nc_3 hG⟩) (fun hz => (List.mem_cons.mp hz).elim (fun q => by subst q; exact Or.inl (by decide)) (fun hz => (List.mem_cons.mp hz).elim (fun q => by subst q; exact Or.inl (by decide)) (fun hz => (List.mem_cons.mp hz).elim (fun q => by subst q; exact Or.inl (by decide)) (fun hz => (List.mem_cons.mp hz).elim (fun q => by subst q; exact Or.inl (by decide)) (fun hz => (List.mem_cons.mp hz).elim (fun q => by subst q; exact Or.inl (by decide)) (fun hz => (List.mem_cons.mp hz).elim (fun q => by subst q; exact Or.inl (by decide)) (fun hz => (List.mem_cons.mp hz).elim (fun q => by subst q; exact Or.inl (by decide)) (fun hz => (List.mem_cons.mp hz).elim (fun q => by subst q; exact Or.inl (by decide)) (fun hz => (List.mem_cons.mp hz).elim (fun q => by subst q; exact Or.inl (by decide)) (fun hz => (List.mem_cons.mp hz).elim (fun q => by subst q; exact Or.inl (by decide)) (fun hz => (List.mem_cons.mp hz).elim (fun q => by subst q; exact Or.inl (by decide)) (fun hz => (List.mem_cons.mp hz).elim (fun q => by subst q; exact Or.inl (by decide)) (fun hz => (List.mem_cons.mp hz).elim (fun q => by subst q; exact Or.inl (by decide)) (fun hz => (List.mem_cons.mp hz).elim (fun q => by subst q; exact Or.inl (by decide)) (fun hz => (List.mem_cons.mp hz).elim (fun q => by subst q; exact Or.inl (by decide)) (fun hz => (List.mem_cons.mp hz).elim (fun q => by subst q; exact Or.inl (by decide)) (fun hz => (List.mem_cons.mp hz).elim (fun q => by subst q; exact Or.inl (by decide)) (fun hz => (List.mem_cons.mp hz).elim (fun q => by subst q; exact Or.inl (by decide)) (fun hz => (List.mem_cons.mp hz).elim (fun q => by subst q; exact Or.inl (by decide)) (fun hz => (List.mem_cons.mp hz).elim (fun q => by subst q; exact Or.inr ⟨by decide, _, hxl84, nc_4 hG⟩) (fun hz => (List.mem_cons.mp hz).elim (fun q => by subst q; exact Or.inl (by decide)) (fun hz => (List.mem_cons.mp hz).elim (fun q => by subst q; exact Or.inl (by decide)) (fun hz => (List.mem_cons.mp hz).elim (fun q => by subst q; exact Or.inl (by decide)) (fun hz => (List.mem_cons.mp hz).elim (fun q => by subst q; exact Or.inl (by decide)) (fun hz => (List.mem_cons.mp hz).elim (fun q => by subst q; exact Or.inl (by decide)) (fun hz => (List.mem_cons.mp hz).elim (fun q => by subst q; exact Or.inl (by decide)) (fun hz => (List.mem_cons.mp hz).elim (fun q => by subst q; exact Or.inl (by decide)) (fun hz => (List.mem_cons.mp hz).elim (fun q => by subst q; exact Or.inl (by decide)) (fun hz => (List.mem_cons.mp hz).elim (fun q => by subst q; exact Or.inl (by decide)) (fun hz => (List.mem_cons.mp hz).elim (fun q => by subst q; exact Or.inl (by decide)) (fun hz => (List.mem_cons.mp hz).elim (fun q => by subst q; exact Or.inl (by decide)) (fun hz => (List.mem_cons.mp hz).elim (fun q => by subst q; exact Or.inl (by decide)) (fun hz => (List.mem_cons.mp hz).elim (fun q => by subst q; exact Or.inl (by decide)) (fun hz => (List.mem_cons.mp hz).elim (fun q => by subst q; exact Or.inl (by decide)) (fun hz => (List.mem_cons.mp hz).elim (fun q => by subst q; exact Or.inl (by decide)) (fun hz => (List.mem_cons.mp hz).elim (fun q => by subst q; exact Or.inl (by decide)) (fun hz => (List.mem_cons.mp hz).elim (fun q => by subst q; exact Or.inl (by decide)) (fun hz => (List.mem_cons.mp hz).elim (fun q => by subst q; exact Or.inl (by decide)) (fun hz => (List.mem_cons.mp hz).elim (fun q => by subst q; exact Or.inl (by decide)) (fun hz => (List.mem_cons.mp hz).elim (fun q => by subst q; exact Or.inr ⟨by decide, _, hxl86, nc_5 hG⟩) (fun hz => (List.mem_cons.mp hz).elim (fun q => by subst q; exact Or.inl (by decide)) (fun hz => (List.mem_cons.mp hz).elim (fun q => by subst q; exact Or.inl (by decide)) (fun hz => (List.mem_cons.mp hz).elim (fun q => by subst q; exact Or.inl (by decide)) (fun hz => (List.mem_cons.mp hz).elim (fun q => by subst q; exact Or.inl (by decide)) (fun hz => (List.mem_cons.mp hz).elim (fun q => by subst q; exact Or.inl (by decide)) (fun hz => (List.mem_cons.mp hz).elim (fun q => by subst q; exact Or.inl (by decide)) (fun hz => (List.mem_cons.mp hz).elim (fun q => by subst q; exact Or.inl (by decide)) (fun hz => (List.mem_cons.mp hz).elim (fun q => by subst q; exact Or.inl (by decide)) (fun hz => (List.mem_cons.mp hz).elim (fun q => by subst q; exact Or.inl (by decide)) (fun hz => (List.mem_cons.mp hz).elim (fun q => by subst q; exact Or.inl (by decide)) (fun hz => (List.mem_cons.mp hz).elim (fun q => by subst q; exact Or.inl (by decide)) (fun hz => (List.mem_cons.mp hz).elim (fun q => by subst q; exact Or.inl (by decide)) (fun hz => (List.mem_cons.mp hz).elim (fun q => by subst q; exact Or.inl (by decide)) (fun hz => (List.mem_cons.mp hz).elim (fun q => by subst q; exact Or.inl (by decide)) (fun hz => (List.mem_cons.mp hz).elim (fun q => by subst q; exact Or.inl (by decide)) (fun hz => (List.mem_cons.mp hz).elim (fun q => by subst q; exact Or.inl (by decide)) (fun hz => (List.mem_cons.mp hz).elim (fun q => by subst q; exact Or.inl (by decide)) (fun hz => (List.mem_cons.mp hz).elim (fun q => by subst q; exact Or.inl (by decide)) (fun hz => (List.mem_cons.mp hz).elim (fun q => by subst q; exact Or.inl (by decide)) (fun hz => absurd hz List.not_mem_nil)))))))))))))))))))))))))))))))))))))))))))))))))))))))))))))) (by decide) (by decide) hxl88 (xc_2 hG) hce hcv hcl ?_
      have hS := hS9
      have ht_1 := ht
      refine lv_astore (lv' := [(5, .ref q9), (0, .ref t_p_), (1, .int 1), (2, .int a_), (3, .int b_), (4, .int c_)]) hx hb dL_asks_267 hl (by decide) rfl (fun ls hl => ?_)
      refine lv_sipush (v := (-20004)) hx hb dL_asks_269 (by decide) ?_
      refine W.widen (k := 6) (n := 36) (by omega) (by omega) ?_
      exact W.iret (v := (-20004)) hx hb hr (fun t ht hW => ⟨⟨(-20004), (ad_2, o_3, ()), rfl, ⟨hw, had_2⟩, ⟨P_at ht hP, hD⟩⟩, hS.F ht⟩) hS.2.2 dL_asks_272
  obtain ⟨ad_4, o_5⟩ := u_1
  obtain ⟨hw, had_4⟩ := hw_1
  rw [ht_1] at hB_1
  obtain ⟨hP1, hD1⟩ := hB_1
  obtain ⟨hP, hD⟩ := join_r hPs hDs hk_1 hFc hP1 hD1
  obtain ⟨hP, hD⟩ := seg_join [] [offS ad_4 tp_p_ hd_p_ tf_p_ cf_p_ g o_5] [offS ad_4 tp_p_ hd_p_ tf_p_ cf_p_ g o_5] 1 [0] rfl rfl (by decide) hP hD
  have hP : va_P (dC, dI) vwCl (offS ad_4 tp_p_ hd_p_ tf_p_ cf_p_ g o_5) H_1 := hP
  have hD : va_D A (offS ad_4 tp_p_ hd_p_ tf_p_ cf_p_ g o_5) := hD
  refine W.widen (k := 6) (n := 36) (by omega) (by omega) ?_
  refine W.widen (k := 6) (n := 36) (by omega) (by omega) ?_
  exact W.iret (v := r_1) hx hb hr (fun t ht hW => ⟨⟨r_1, (ad_4, o_5, ()), rfl, ⟨hw, had_4⟩, ⟨P_at ht hP, hD⟩⟩, hS.F ht⟩) hS.2.2 dL_asks_111
theorem dL_asks_112 : decode cL_asks 112 = .ok (.aload_n 0, 1) := by decide +kernel
theorem dL_asks_113 : decode cL_asks 113 = .ok (.iload_n 2, 1) := by decide +kernel
theorem dL_asks_114 : decode cL_asks 114 = .ok (.iload_n 3, 1) := by decide +kernel
theorem dL_asks_115 : decode cL_asks 115 = .ok (.iload 4, 2) := by decide +kernel
theorem dL_asks_117 : decode cL_asks 117 = .ok (.bipush 9, 2) := by decide +kernel
theorem dL_asks_119 : decode cL_asks 119 = .ok (.invokevirtual 27, 3) := by decide +kernel
theorem dL_asks_122 : decode cL_asks 122 = .ok (.ireturn, 1) := by decide +kernel

set_option maxHeartbeats 8000000 in
set_option maxRecDepth 100000 in
theorem c_L_asks_2 (l : Launch) (hlf : l.stackTraces = false) (dC : Nat → ClassId) (dI : Nat → Nat → Nat) (g : Nat → ClassId) (tp_p_ hd_p_ : Nat → Nat) (tf_p_ cf_p_ : Nat → Option Nat) (htf_p_ : ∀ j, j < 8 → tf_p_ j = some (tp_p_ j)) (hcf_p_ : ∀ j, j < 8 → cf_p_ j = some (tp_p_ (8 + j))) (a_p_ : Nat → Nat) (t_p_ : Nat) (h_p_ : a_p_ 0 = t_p_) (o_p_ : OS) (a_ : Int32) (b_ : Int32) (c_ : Int32) (Q : Int32 → OS → Prop) (hw : wp_L_asks_2 o_p_ a_ b_ c_ Q) (sz : Nat) : Met l yL_asks wqL_asks ({ frames := 8, cells := 4, slots := 24, locals := 133 }) (va_Pc [.ref t_p_, .int 2, .int a_, .int b_, .int c_] (PG (dC, dI) g (offS a_p_ tp_p_ hd_p_ tf_p_ cf_p_ g o_p_) sz)) (va_Qi (fun (r : Int32) (u : (Nat → Nat) × OS × Unit) => Q r u.2.1 ∧ u.1 0 = t_p_) (fun (u : (Nat → Nat) × OS × Unit) t9 => va_P (dC, dI) vwCl (offS u.1 tp_p_ hd_p_ tf_p_ cf_p_ g u.2.1) t9.heap ∧ va_D (va_A (offS a_p_ tp_p_ hd_p_ tf_p_ cf_p_ g o_p_) sz) (offS u.1 tp_p_ hd_p_ tf_p_ cf_p_ g u.2.1)) (va_A (offS a_p_ tp_p_ hd_p_ tf_p_ cf_p_ g o_p_) sz)) 4 24 (va_A (offS a_p_ tp_p_ hd_p_ tf_p_ cf_p_ g o_p_) sz) := by
  refine mt_ofWH (cc := cL_asks) (maxL := 6) (ret := (some .int)) (hh := [(0, 100, 249, 82), (101, 111, 249, 82), (112, 122, 249, 82), (123, 129, 249, 82), (130, 138, 249, 82), (139, 145, 249, 82), (146, 154, 249, 82), (155, 161, 249, 82), (162, 168, 249, 82), (169, 174, 249, 82), (175, 179, 249, 82), (180, 185, 249, 82), (186, 195, 249, 82), (196, 202, 249, 82), (203, 209, 249, 82), (210, 216, 249, 82), (217, 221, 249, 82), (222, 228, 249, 82), (229, 239, 249, 82), (240, 248, 249, 82), (0, 100, 255, 84), (101, 111, 255, 84), (112, 122, 255, 84), (123, 129, 255, 84), (130, 138, 255, 84), (139, 145, 255, 84), (146, 154, 255, 84), (155, 161, 255, 84), (162, 168, 255, 84), (169, 174, 255, 84), (175, 179, 255, 84), (180, 185, 255, 84), (186, 195, 255, 84), (196, 202, 255, 84), (203, 209, 255, 84), (210, 216, 255, 84), (217, 221, 255, 84), (222, 228, 255, 84), (229, 239, 255, 84), (240, 248, 255, 84), (0, 100, 261, 86), (101, 111, 261, 86), (112, 122, 261, 86), (123, 129, 261, 86), (130, 138, 261, 86), (139, 145, 261, 86), (146, 154, 261, 86), (155, 161, 261, 86), (162, 168, 261, 86), (169, 174, 261, 86), (175, 179, 261, 86), (180, 185, 261, 86), (186, 195, 261, 86), (196, 202, 261, 86), (203, 209, 261, 86), (210, 216, 261, 86), (217, 221, 261, 86), (222, 228, 261, 86), (229, 239, 261, 86), (240, 248, 261, 86), (0, 100, 267, 88), (101, 111, 267, 88), (112, 122, 267, 88), (123, 129, 267, 88), (130, 138, 267, 88), (139, 145, 267, 88), (146, 154, 267, 88), (155, 161, 267, 88), (162, 168, 267, 88), (169, 174, 267, 88), (175, 179, 267, 88), (180, 185, 267, 88), (186, 195, 267, 88), (196, 202, 267, 88), (203, 209, 267, 88), (210, 216, 267, 88), (217, 221, 267, 88), (222, 228, 267, 88), (229, 239, 267, 88), (240, 248, 267, 88)]) (by decide) rfl ?_
  intro p e s m args below meth c s₁ B hml hv
  obtain ⟨rfl, hsz, hP, hK, hD0, hG⟩ := hv
  have hx := B.exec
  have hb := B.bytes
  have hr := B.returns
  have hts := atoms_spec (ws := wqL_asks) B.pre
  have hown : s.vm.findClass RL = some m.cls := findClass_of_methodNamed B.named
  have hlocks := B.notSynchronized
  subst hsz
  have hD := hD0.self (sz := s.heap.size)
  generalize hAe : va_A (offS a_p_ tp_p_ hd_p_ tf_p_ cf_p_ g o_p_) s.heap.size = A at hD hG ⊢
  have hA : ∀ q : Nat, s.heap.size ≤ q → A q := fun q h => by rw [← hAe]; exact Or.inr h
  have hS : va_S A s.heap s.heap [] := va_S.rf
  have hrc : (headSpec wqL_asks ({ frames := 8, cells := 4, slots := 24, locals := 133 })).room.cells = 4 := rfl
  have hrs : (headSpec wqL_asks ({ frames := 8, cells := 4, slots := 24, locals := 133 })).room.slots = 24 := rfl
  have hTab := vx_table (x := yL_asks) B (hts (Cond.codeWith yL_asks cL_asks 6 (some .int) [(0, 100, 249, 82), (101, 111, 249, 82), (112, 122, 249, 82), (123, 129, 249, 82), (130, 138, 249, 82), (139, 145, 249, 82), (146, 154, 249, 82), (155, 161, 249, 82), (162, 168, 249, 82), (169, 174, 249, 82), (175, 179, 249, 82), (180, 185, 249, 82), (186, 195, 249, 82), (196, 202, 249, 82), (203, 209, 249, 82), (210, 216, 249, 82), (217, 221, 249, 82), (222, 228, 249, 82), (229, 239, 249, 82), (240, 248, 249, 82), (0, 100, 255, 84), (101, 111, 255, 84), (112, 122, 255, 84), (123, 129, 255, 84), (130, 138, 255, 84), (139, 145, 255, 84), (146, 154, 255, 84), (155, 161, 255, 84), (162, 168, 255, 84), (169, 174, 255, 84), (175, 179, 255, 84), (180, 185, 255, 84), (186, 195, 255, 84), (196, 202, 255, 84), (203, 209, 255, 84), (210, 216, 255, 84), (217, 221, 255, 84), (222, 228, 255, 84), (229, 239, 255, 84), (240, 248, 255, 84), (0, 100, 261, 86), (101, 111, 261, 86), (112, 122, 261, 86), (123, 129, 261, 86), (130, 138, 261, 86), (139, 145, 261, 86), (146, 154, 261, 86), (155, 161, 261, 86), (162, 168, 261, 86), (169, 174, 261, 86), (175, 179, 261, 86), (180, 185, 261, 86), (186, 195, 261, 86), (196, 202, 261, 86), (203, 209, 261, 86), (210, 216, 261, 86), (217, 221, 261, 86), (222, 228, 261, 86), (229, 239, 261, 86), (240, 248, 261, 86), (0, 100, 267, 88), (101, 111, 267, 88), (112, 122, 267, 88), (123, 129, 267, 88), (130, 138, 267, 88), (139, 145, 267, 88), (146, 154, 267, 88), (155, 161, 267, 88), (162, 168, 267, 88), (169, 174, 267, 88), (175, 179, 267, 88), (180, 185, 267, 88), (186, 195, 267, 88), (196, 202, 267, 88), (203, 209, 267, 88), (210, 216, 267, 88), (217, 221, 267, 88), (222, 228, 267, 88), (229, 239, 267, 88), (240, 248, 267, 88)]) (List.mem_cons_self))
  have hl := lv_entry ([.ref t_p_, .int 2, .int a_, .int b_, .int c_]) (n := 6) (Nat.le_of_ble_eq_true rfl)
  rw [lg_entry_eq]
  generalize (lg_sl ([.ref t_p_, .int 2, .int a_, .int b_, .int c_]) ++ List.replicate (6 - (lg_sl ([.ref t_p_, .int 2, .int a_, .int b_, .int c_])).length) Slot.unset).toArray = ls at hl ⊢
  have hl : lv_has ls 6 [(0, .ref t_p_), (1, .int 2), (2, .int a_), (3, .int b_), (4, .int c_)] := hl
  unfold wp_L_asks_2 at hw
  have hxl82 := hts (Cond.classLink RL 82 "java/lang/IndexOutOfBoundsException") (aw_l aw_4_48)
  have hxl84 := hts (Cond.classLink RL 84 "java/util/NoSuchElementException") (aw_l aw_4_49)
  have hxl86 := hts (Cond.classLink RL 86 "java/lang/IllegalArgumentException") (aw_l aw_4_50)
  have hxl88 := hts (Cond.classLink RL 88 "java/lang/IllegalStateException") (aw_l aw_4_51)
  refine lv_iload_n hx hb dL_asks_0 rfl (lv_at hl 1 rfl) ?_
  refine lv_tableIn (tgt := 112) hx hb dL_asks_1 (by decide) (by decide) rfl (by decide) ?_
  refine lv_aload_n hx hb dL_asks_112 rfl (lv_at hl 0 rfl) ?_
  refine lv_iload_n hx hb dL_asks_113 rfl (lv_at hl 2 rfl) ?_
  refine lv_iload_n hx hb dL_asks_114 rfl (lv_at hl 3 rfl) ?_
  refine lv_iload hx hb dL_asks_115 (lv_at hl 4 rfl) ?_
  refine lv_bipush (v := 9) hx hb dL_asks_117 (by decide) ?_
  obtain ⟨hPs, hDs⟩ := seg_call (segs := [offS a_p_ tp_p_ hd_p_ tf_p_ cf_p_ g o_p_]) [] [offS a_p_ tp_p_ hd_p_ tf_p_ cf_p_ g o_p_] 1 [0] rfl rfl (by decide) hP hD
  have hPc : va_P (dC, dI) vwCl (offS a_p_ tp_p_ hd_p_ tf_p_ cf_p_ g o_p_) s.heap := P_r hPs
  have hDc : va_D A (offS a_p_ tp_p_ hd_p_ tf_p_ cf_p_ g o_p_) := D_r hDs
  have hFc : ∀ q, va_A (offS a_p_ tp_p_ hd_p_ tf_p_ cf_p_ g o_p_) s.heap.size q → A q := A_all hDc hA hS.1
  refine vx_calli (vx_runV (As := [.int a_, .int b_, .int c_, .int 9]) (rest := []) ⟨hx, hb, hml, hown, hts⟩ (p_scatter l hlf dC dI g tp_p_ hd_p_ tf_p_ cf_p_ htf_p_ hcf_p_ a_p_ t_p_ h_p_ o_p_ a_ b_ c_ 9 (hw := hw) (sz := s.heap.size)) (cwV 4 hts (gqV aw_3_119 aw_3_120 aw_3_121 aw_1_1 aw_3_122) rfl rfl rfl (by decide +kernel) ⟨Nat.le_of_ble_eq_true rfl, Nat.le_of_ble_eq_true rfl⟩) ⟨PG_blind, off_recv h_p_ hK hPc, PG_call hK hG hS hPc hDc hFc⟩ rfl rfl hl.1 rfl (lv_room (Nat.le_of_ble_eq_true rfl)) dL_asks_119 ⟨by rw [hrc]; omega, by rw [hrs]; omega⟩) hS (fun q _ h => hFc q h) hFc (fun q _ h => hFc q h) (fun E ce q9 ux t H1 locs1 ht hvm hp9 hB9 hz hk hS9 hce hcv hcl => ?_) (fun r_1 u_1 t_1 H_1 L_1 ht_1 hvm_1 hw_1 hB_1 hz_1 hk_1 hS => ?_)
  · obtain ⟨ad_2, o_3⟩ := ux
    obtain ⟨⟨hw9, had_2⟩, hB9⟩ := hB9
    rw [ht] at hB9
    obtain ⟨hP1, hD1⟩ := hB9
    obtain ⟨hP, hD⟩ := join_r hPs hDs hk hFc hP1 hD1
    obtain ⟨hP, hD⟩ := seg_join [] [offS ad_2 tp_p_ hd_p_ tf_p_ cf_p_ g o_3] [offS ad_2 tp_p_ hd_p_ tf_p_ cf_p_ g o_3] 1 [0] rfl rfl (by decide) hP hD
    have hP : va_P (dC, dI) vwCl (offS ad_2 tp_p_ hd_p_ tf_p_ cf_p_ g o_3) H1 := hP
    have hD : va_D A (offS ad_2 tp_p_ hd_p_ tf_p_ cf_p_ g o_3) := hD
    rcases hw9 with ⟨rfl, hw⟩ | ⟨rfl, hw⟩ | ⟨rfl, hw⟩ | ⟨rfl, hw⟩
    · refine vx_catch (own := RL) (name := "java/lang/IndexOutOfBoundsException") (E := "java/lang/IndexOutOfBoundsException") hown [⟨0, 100, 249, 82⟩, ⟨101, 111, 249, 82⟩] ⟨112, 122, 249, 82⟩ [⟨123, 129, 249, 82⟩, ⟨130, 138, 249, 82⟩, ⟨139, 145, 249, 82⟩, ⟨146, 154, 249, 82⟩, ⟨155, 161, 249, 82⟩, ⟨162, 168, 249, 82⟩, ⟨169, 174, 249, 82⟩, ⟨175, 179, 249, 82⟩, ⟨180, 185, 249, 82⟩, ⟨186, 195, 249, 82⟩, ⟨196, 202, 249, 82⟩, ⟨203, 209, 249, 82⟩, ⟨210, 216, 249, 82⟩, ⟨217, 221, 249, 82⟩, ⟨222, 228, 249, 82⟩, ⟨229, 239, 249, 82⟩, ⟨240, 248, 249, 82⟩, ⟨0, 100, 255, 84⟩, ⟨101, 111, 255, 84⟩, ⟨112, 122, 255, 84⟩, ⟨123, 129, 255, 84⟩, ⟨130, 138, 255, 84⟩, ⟨139, 145, 255, 84⟩, ⟨146, 154, 255, 84⟩, ⟨155, 161, 255, 84⟩, ⟨162, 168, 255, 84⟩, ⟨169, 174, 255, 84⟩, ⟨175, 179, 255, 84⟩, ⟨180, 185, 255, 84⟩, ⟨186, 195, 255, 84⟩, ⟨196, 202, 255, 84⟩, ⟨203, 209, 255, 84⟩, ⟨210, 216, 255, 84⟩, ⟨217, 221, 255, 84⟩, ⟨222, 228, 255, 84⟩, ⟨229, 239, 255, 84⟩, ⟨240, 248, 255, 84⟩, ⟨0, 100, 261, 86⟩, ⟨101, 111, 261, 86⟩, ⟨112, 122, 261, 86⟩, ⟨123, 129, 261, 86⟩, ⟨130, 138, 261, 86⟩, ⟨139, 145, 261, 86⟩, ⟨146, 154, 261, 86⟩, ⟨155, 161, 261, 86⟩, ⟨162, 168, 261, 86⟩, ⟨169, 174, 261, 86⟩, ⟨175, 179, 261, 86⟩, ⟨180, 185, 261, 86⟩, ⟨186, 195, 261, 86⟩, ⟨196, 202, 261, 86⟩, ⟨203, 209, 261, 86⟩, ⟨210, 216, 261, 86⟩, ⟨217, 221, 261, 86⟩, ⟨222, 228, 261, 86⟩, ⟨229, 239, 261, 86⟩, ⟨240, 248, 261, 86⟩, ⟨0, 100, 267, 88⟩, ⟨101, 111, 267, 88⟩, ⟨112, 122, 267, 88⟩, ⟨123, 129, 267, 88⟩, ⟨130, 138, 267, 88⟩, ⟨139, 145, 267, 88⟩, ⟨146, 154, 267, 88⟩, ⟨155, 161, 267, 88⟩, ⟨162, 168, 267, 88⟩, ⟨169, 174, 267, 88⟩, ⟨175, 179, 267, 88⟩, ⟨180, 185, 267, 88⟩, ⟨186, 195, 267, 88⟩, ⟨196, 202, 267, 88⟩, ⟨203, 209, 267, 88⟩, ⟨210, 216, 267, 88⟩, ⟨217, 221, 267, 88⟩, ⟨222, 228, 267, 88⟩, ⟨229, 239, 267, 88⟩, ⟨240, 248, 267, 88⟩] (by rw [hTab]; rfl) (fun z hz => (List.mem_cons.mp hz).elim (fun q => by subst q; exact Or.inl (by decide)) (fun hz => (List.mem_cons.mp hz).elim (fun q => by subst q; exact Or.inl (by decide)) (fun hz => absurd hz List.not_mem_nil))) (by decide) (by decide) hxl82 (xc_0 hG) hce hcv hcl ?_
      have hS := hS9
      have ht_1 := ht
      refine lv_astore (lv' := [(5, .ref q9), (0, .ref t_p_), (1, .int 2), (2, .int a_), (3, .int b_), (4, .int c_)]) hx hb dL_asks_249 hl (by decide) rfl (fun ls hl => ?_)
      refine lv_sipush (v := (-20001)) hx hb dL_asks_251 (by decide) ?_
      refine W.widen (k := 4) (n := 24) (by omega) (by omega) ?_
      exact W.iret (v := (-20001)) hx hb hr (fun t ht hW => ⟨⟨(-20001), (ad_2, o_3, ()), rfl, ⟨hw, had_2⟩, ⟨P_at ht hP, hD⟩⟩, hS.F ht⟩) hS.2.2 dL_asks_254
    · refine vx_catch (own := RL) (name := "java/util/NoSuchElementException") (E := "java/util/NoSuchElementException") hown [⟨0, 100, 249, 82⟩, ⟨101, 111, 249, 82⟩, ⟨112, 122, 249, 82⟩, ⟨123, 129, 249, 82⟩, ⟨130, 138, 249, 82⟩, ⟨139, 145, 249, 82⟩, ⟨146, 154, 249, 82⟩, ⟨155, 161, 249, 82⟩, ⟨162, 168, 249, 82⟩, ⟨169, 174, 249, 82⟩, ⟨175, 179, 249, 82⟩, ⟨180, 185, 249, 82⟩, ⟨186, 195, 249, 82⟩, ⟨196, 202, 249, 82⟩, ⟨203, 209, 249, 82⟩, ⟨210, 216, 249, 82⟩, ⟨217, 221, 249, 82⟩, ⟨222, 228, 249, 82⟩, ⟨229, 239, 249, 82⟩, ⟨240, 248, 249, 82⟩, ⟨0, 100, 255, 84⟩, ⟨101, 111, 255, 84⟩] ⟨112, 122, 255, 84⟩ [⟨123, 129, 255, 84⟩, ⟨130, 138, 255, 84⟩, ⟨139, 145, 255, 84⟩, ⟨146, 154, 255, 84⟩, ⟨155, 161, 255, 84⟩, ⟨162, 168, 255, 84⟩, ⟨169, 174, 255, 84⟩, ⟨175, 179, 255, 84⟩, ⟨180, 185, 255, 84⟩, ⟨186, 195, 255, 84⟩, ⟨196, 202, 255, 84⟩, ⟨203, 209, 255, 84⟩, ⟨210, 216, 255, 84⟩, ⟨217, 221, 255, 84⟩, ⟨222, 228, 255, 84⟩, ⟨229, 239, 255, 84⟩, ⟨240, 248, 255, 84⟩, ⟨0, 100, 261, 86⟩, ⟨101, 111, 261, 86⟩, ⟨112, 122, 261, 86⟩, ⟨123, 129, 261, 86⟩, ⟨130, 138, 261, 86⟩, ⟨139, 145, 261, 86⟩, ⟨146, 154, 261, 86⟩, ⟨155, 161, 261, 86⟩, ⟨162, 168, 261, 86⟩, ⟨169, 174, 261, 86⟩, ⟨175, 179, 261, 86⟩, ⟨180, 185, 261, 86⟩, ⟨186, 195, 261, 86⟩, ⟨196, 202, 261, 86⟩, ⟨203, 209, 261, 86⟩, ⟨210, 216, 261, 86⟩, ⟨217, 221, 261, 86⟩, ⟨222, 228, 261, 86⟩, ⟨229, 239, 261, 86⟩, ⟨240, 248, 261, 86⟩, ⟨0, 100, 267, 88⟩, ⟨101, 111, 267, 88⟩, ⟨112, 122, 267, 88⟩, ⟨123, 129, 267, 88⟩, ⟨130, 138, 267, 88⟩, ⟨139, 145, 267, 88⟩, ⟨146, 154, 267, 88⟩, ⟨155, 161, 267, 88⟩, ⟨162, 168, 267, 88⟩, ⟨169, 174, 267, 88⟩, ⟨175, 179, 267, 88⟩, ⟨180, 185, 267, 88⟩, ⟨186, 195, 267, 88⟩, ⟨196, 202, 267, 88⟩, ⟨203, 209, 267, 88⟩, ⟨210, 216, 267, 88⟩, ⟨217, 221, 267, 88⟩, ⟨222, 228, 267, 88⟩, ⟨229, 239, 267, 88⟩, ⟨240, 248, 267, 88⟩] (by rw [hTab]; rfl) (fun z hz => (List.mem_cons.mp hz).elim (fun q => by subst q; exact Or.inl (by decide)) (fun hz => (List.mem_cons.mp hz).elim (fun q => by subst q; exact Or.inl (by decide)) (fun hz => (List.mem_cons.mp hz).elim (fun q => by subst q; exact Or.inr ⟨by decide, _, hxl82, nc_0 hG⟩) (fun hz => (List.mem_cons.mp hz).elim (fun q => by subst q; exact Or.inl (by decide)) (fun hz => (List.mem_cons.mp hz).elim (fun q => by subst q; exact Or.inl (by decide)) (fun hz => (List.mem_cons.mp hz).elim (fun q => by subst q; exact Or.inl (by decide)) (fun hz => (List.mem_cons.mp hz).elim (fun q => by subst q; exact Or.inl (by decide)) (fun hz => (List.mem_cons.mp hz).elim (fun q => by subst q; exact Or.inl (by decide)) (fun hz => (List.mem_cons.mp hz).elim (fun q => by subst q; exact Or.inl (by decide)) (fun hz => (List.mem_cons.mp hz).elim (fun q => by subst q; exact Or.inl (by decide)) (fun hz => (List.mem_cons.mp hz).elim (fun q => by subst q; exact Or.inl (by decide)) (fun hz => (List.mem_cons.mp hz).elim (fun q => by subst q; exact Or.inl (by decide)) (fun hz => (List.mem_cons.mp hz).elim (fun q => by subst q; exact Or.inl (by decide)) (fun hz => (List.mem_cons.mp hz).elim (fun q => by subst q; exact Or.inl (by decide)) (fun hz => (List.mem_cons.mp hz).elim (fun q => by subst q; exact Or.inl (by decide)) (fun hz => (List.mem_cons.mp hz).elim (fun q => by subst q; exact Or.inl (by decide)) (fun hz => (List.mem_cons.mp hz).elim (fun q => by subst q; exact Or.inl (by decide)) (fun hz => (List.mem_cons.mp hz).elim (fun q => by subst q; exact Or.inl (by decide)) (fun hz => (List.mem_cons.mp hz).elim (fun q => by subst q; exact Or.inl (by decide)) (fun hz => (List.mem_cons.mp hz).elim (fun q => by subst q; exact Or.inl (by decide)) (fun hz => (List.mem_cons.mp hz).elim (fun q => by subst q; exact Or.inl (by decide)) (fun hz => (List.mem_cons.mp hz).elim (fun q => by subst q; exact Or.inl (by decide)) (fun hz => absurd hz List.not_mem_nil))))))))))))))))))))))) (by decide) (by decide) hxl84 (xc_3 hG) hce hcv hcl ?_
      have hS := hS9
      have ht_1 := ht
      refine lv_astore (lv' := [(5, .ref q9), (0, .ref t_p_), (1, .int 2), (2, .int a_), (3, .int b_), (4, .int c_)]) hx hb dL_asks_255 hl (by decide) rfl (fun ls hl => ?_)
      refine lv_sipush (v := (-20002)) hx hb dL_asks_257 (by decide) ?_
      refine W.widen (k := 4) (n := 24) (by omega) (by omega) ?_
      exact W.iret (v := (-20002)) hx hb hr (fun t ht hW => ⟨⟨(-20002), (ad_2, o_3, ()), rfl, ⟨hw, had_2⟩, ⟨P_at ht hP, hD⟩⟩, hS.F ht⟩) hS.2.2 dL_asks_260
    · refine vx_catch (own := RL) (name := "java/lang/IllegalArgumentException") (E := "java/lang/IllegalArgumentException") hown [⟨0, 100, 249, 82⟩, ⟨101, 111, 249, 82⟩, ⟨112, 122, 249, 82⟩, ⟨123, 129, 249, 82⟩, ⟨130, 138, 249, 82⟩, ⟨139, 145, 249, 82⟩, ⟨146, 154, 249, 82⟩, ⟨155, 161, 249, 82⟩, ⟨162, 168, 249, 82⟩, ⟨169, 174, 249, 82⟩, ⟨175, 179, 249, 82⟩, ⟨180, 185, 249, 82⟩, ⟨186, 195, 249, 82⟩, ⟨196, 202, 249, 82⟩, ⟨203, 209, 249, 82⟩, ⟨210, 216, 249, 82⟩, ⟨217, 221, 249, 82⟩, ⟨222, 228, 249, 82⟩, ⟨229, 239, 249, 82⟩, ⟨240, 248, 249, 82⟩, ⟨0, 100, 255, 84⟩, ⟨101, 111, 255, 84⟩, ⟨112, 122, 255, 84⟩, ⟨123, 129, 255, 84⟩, ⟨130, 138, 255, 84⟩, ⟨139, 145, 255, 84⟩, ⟨146, 154, 255, 84⟩, ⟨155, 161, 255, 84⟩, ⟨162, 168, 255, 84⟩, ⟨169, 174, 255, 84⟩, ⟨175, 179, 255, 84⟩, ⟨180, 185, 255, 84⟩, ⟨186, 195, 255, 84⟩, ⟨196, 202, 255, 84⟩, ⟨203, 209, 255, 84⟩, ⟨210, 216, 255, 84⟩, ⟨217, 221, 255, 84⟩, ⟨222, 228, 255, 84⟩, ⟨229, 239, 255, 84⟩, ⟨240, 248, 255, 84⟩, ⟨0, 100, 261, 86⟩, ⟨101, 111, 261, 86⟩] ⟨112, 122, 261, 86⟩ [⟨123, 129, 261, 86⟩, ⟨130, 138, 261, 86⟩, ⟨139, 145, 261, 86⟩, ⟨146, 154, 261, 86⟩, ⟨155, 161, 261, 86⟩, ⟨162, 168, 261, 86⟩, ⟨169, 174, 261, 86⟩, ⟨175, 179, 261, 86⟩, ⟨180, 185, 261, 86⟩, ⟨186, 195, 261, 86⟩, ⟨196, 202, 261, 86⟩, ⟨203, 209, 261, 86⟩, ⟨210, 216, 261, 86⟩, ⟨217, 221, 261, 86⟩, ⟨222, 228, 261, 86⟩, ⟨229, 239, 261, 86⟩, ⟨240, 248, 261, 86⟩, ⟨0, 100, 267, 88⟩, ⟨101, 111, 267, 88⟩, ⟨112, 122, 267, 88⟩, ⟨123, 129, 267, 88⟩, ⟨130, 138, 267, 88⟩, ⟨139, 145, 267, 88⟩, ⟨146, 154, 267, 88⟩, ⟨155, 161, 267, 88⟩, ⟨162, 168, 267, 88⟩, ⟨169, 174, 267, 88⟩, ⟨175, 179, 267, 88⟩, ⟨180, 185, 267, 88⟩, ⟨186, 195, 267, 88⟩, ⟨196, 202, 267, 88⟩, ⟨203, 209, 267, 88⟩, ⟨210, 216, 267, 88⟩, ⟨217, 221, 267, 88⟩, ⟨222, 228, 267, 88⟩, ⟨229, 239, 267, 88⟩, ⟨240, 248, 267, 88⟩] (by rw [hTab]; rfl) (fun z hz => (List.mem_cons.mp hz).elim (fun q => by subst q; exact Or.inl (by decide)) (fun hz => (List.mem_cons.mp hz).elim (fun q => by subst q; exact Or.inl (by decide)) (fun hz => (List.mem_cons.mp hz).elim (fun q => by subst q; exact Or.inr ⟨by decide, _, hxl82, nc_1 hG⟩) (fun hz => (List.mem_cons.mp hz).elim (fun q => by subst q; exact Or.inl (by decide)) (fun hz => (List.mem_cons.mp hz).elim (fun q => by subst q; exact Or.inl (by decide)) (fun hz => (List.mem_cons.mp hz).elim (fun q => by subst q; exact Or.inl (by decide)) (fun hz => (List.mem_cons.mp hz).elim (fun q => by subst q; exact Or.inl (by decide)) (fun hz => (List.mem_cons.mp hz).elim (fun q => by subst q; exact Or.inl (by decide)) (fun hz => (List.mem_cons.mp hz).elim (fun q => by subst q; exact Or.inl (by decide)) (fun hz => (List.mem_cons.mp hz).elim (fun q => by subst q; exact Or.inl (by decide)) (fun hz => (List.mem_cons.mp hz).elim (fun q => by subst q; exact Or.inl (by decide)) (fun hz => (List.mem_cons.mp hz).elim (fun q => by subst q; exact Or.inl (by decide)) (fun hz => (List.mem_cons.mp hz).elim (fun q => by subst q; exact Or.inl (by decide)) (fun hz => (List.mem_cons.mp hz).elim (fun q => by subst q; exact Or.inl (by decide)) (fun hz => (List.mem_cons.mp hz).elim (fun q => by subst q; exact Or.inl (by decide)) (fun hz => (List.mem_cons.mp hz).elim (fun q => by subst q; exact Or.inl (by decide)) (fun hz => (List.mem_cons.mp hz).elim (fun q => by subst q; exact Or.inl (by decide)) (fun hz => (List.mem_cons.mp hz).elim (fun q => by subst q; exact Or.inl (by decide)) (fun hz => (List.mem_cons.mp hz).elim (fun q => by subst q; exact Or.inl (by decide)) (fun hz => (List.mem_cons.mp hz).elim (fun q => by subst q; exact Or.inl (by decide)) (fun hz => (List.mem_cons.mp hz).elim (fun q => by subst q; exact Or.inl (by decide)) (fun hz => (List.mem_cons.mp hz).elim (fun q => by subst q; exact Or.inl (by decide)) (fun hz => (List.mem_cons.mp hz).elim (fun q => by subst q; exact Or.inr ⟨by decide, _, hxl84, nc_2 hG⟩) (fun hz => (List.mem_cons.mp hz).elim (fun q => by subst q; exact Or.inl (by decide)) (fun hz => (List.mem_cons.mp hz).elim (fun q => by subst q; exact Or.inl (by decide)) (fun hz => (List.mem_cons.mp hz).elim (fun q => by subst q; exact Or.inl (by decide)) (fun hz => (List.mem_cons.mp hz).elim (fun q => by subst q; exact Or.inl (by decide)) (fun hz => (List.mem_cons.mp hz).elim (fun q => by subst q; exact Or.inl (by decide)) (fun hz => (List.mem_cons.mp hz).elim (fun q => by subst q; exact Or.inl (by decide)) (fun hz => (List.mem_cons.mp hz).elim (fun q => by subst q; exact Or.inl (by decide)) (fun hz => (List.mem_cons.mp hz).elim (fun q => by subst q; exact Or.inl (by decide)) (fun hz => (List.mem_cons.mp hz).elim (fun q => by subst q; exact Or.inl (by decide)) (fun hz => (List.mem_cons.mp hz).elim (fun q => by subst q; exact Or.inl (by decide)) (fun hz => (List.mem_cons.mp hz).elim (fun q => by subst q; exact Or.inl (by decide)) (fun hz => (List.mem_cons.mp hz).elim (fun q => by subst q; exact Or.inl (by decide)) (fun hz => (List.mem_cons.mp hz).elim (fun q => by subst q; exact Or.inl (by decide)) (fun hz => (List.mem_cons.mp hz).elim (fun q => by subst q; exact Or.inl (by decide)) (fun hz => (List.mem_cons.mp hz).elim (fun q => by subst q; exact Or.inl (by decide)) (fun hz => (List.mem_cons.mp hz).elim (fun q => by subst q; exact Or.inl (by decide)) (fun hz => (List.mem_cons.mp hz).elim (fun q => by subst q; exact Or.inl (by decide)) (fun hz => (List.mem_cons.mp hz).elim (fun q => by subst q; exact Or.inl (by decide)) (fun hz => (List.mem_cons.mp hz).elim (fun q => by subst q; exact Or.inl (by decide)) (fun hz => absurd hz List.not_mem_nil))))))))))))))))))))))))))))))))))))))))))) (by decide) (by decide) hxl86 (xc_1 hG) hce hcv hcl ?_
      have hS := hS9
      have ht_1 := ht
      refine lv_astore (lv' := [(5, .ref q9), (0, .ref t_p_), (1, .int 2), (2, .int a_), (3, .int b_), (4, .int c_)]) hx hb dL_asks_261 hl (by decide) rfl (fun ls hl => ?_)
      refine lv_sipush (v := (-20003)) hx hb dL_asks_263 (by decide) ?_
      refine W.widen (k := 4) (n := 24) (by omega) (by omega) ?_
      exact W.iret (v := (-20003)) hx hb hr (fun t ht hW => ⟨⟨(-20003), (ad_2, o_3, ()), rfl, ⟨hw, had_2⟩, ⟨P_at ht hP, hD⟩⟩, hS.F ht⟩) hS.2.2 dL_asks_266
    · refine vx_catch (own := RL) (name := "java/lang/IllegalStateException") (E := "java/lang/IllegalStateException") hown [⟨0, 100, 249, 82⟩, ⟨101, 111, 249, 82⟩, ⟨112, 122, 249, 82⟩, ⟨123, 129, 249, 82⟩, ⟨130, 138, 249, 82⟩, ⟨139, 145, 249, 82⟩, ⟨146, 154, 249, 82⟩, ⟨155, 161, 249, 82⟩, ⟨162, 168, 249, 82⟩, ⟨169, 174, 249, 82⟩, ⟨175, 179, 249, 82⟩, ⟨180, 185, 249, 82⟩, ⟨186, 195, 249, 82⟩, ⟨196, 202, 249, 82⟩, ⟨203, 209, 249, 82⟩, ⟨210, 216, 249, 82⟩, ⟨217, 221, 249, 82⟩, ⟨222, 228, 249, 82⟩, ⟨229, 239, 249, 82⟩, ⟨240, 248, 249, 82⟩, ⟨0, 100, 255, 84⟩, ⟨101, 111, 255, 84⟩, ⟨112, 122, 255, 84⟩, ⟨123, 129, 255, 84⟩, ⟨130, 138, 255, 84⟩, ⟨139, 145, 255, 84⟩, ⟨146, 154, 255, 84⟩, ⟨155, 161, 255, 84⟩, ⟨162, 168, 255, 84⟩, ⟨169, 174, 255, 84⟩, ⟨175, 179, 255, 84⟩, ⟨180, 185, 255, 84⟩, ⟨186, 195, 255, 84⟩, ⟨196, 202, 255, 84⟩, ⟨203, 209, 255, 84⟩, ⟨210, 216, 255, 84⟩, ⟨217, 221, 255, 84⟩, ⟨222, 228, 255, 84⟩, ⟨229, 239, 255, 84⟩, ⟨240, 248, 255, 84⟩, ⟨0, 100, 261, 86⟩, ⟨101, 111, 261, 86⟩, ⟨112, 122, 261, 86⟩, ⟨123, 129, 261, 86⟩, ⟨130, 138, 261, 86⟩, ⟨139, 145, 261, 86⟩, ⟨146, 154, 261, 86⟩, ⟨155, 161, 261, 86⟩, ⟨162, 168, 261, 86⟩, ⟨169, 174, 261, 86⟩, ⟨175, 179, 261, 86⟩, ⟨180, 185, 261, 86⟩, ⟨186, 195, 261, 86⟩, ⟨196, 202, 261, 86⟩, ⟨203, 209, 261, 86⟩, ⟨210, 216, 261, 86⟩, ⟨217, 221, 261, 86⟩, ⟨222, 228, 261, 86⟩, ⟨229, 239, 261, 86⟩, ⟨240, 248, 261, 86⟩, ⟨0, 100, 267, 88⟩, ⟨101, 111, 267, 88⟩] ⟨112, 122, 267, 88⟩ [⟨123, 129, 267, 88⟩, ⟨130, 138, 267, 88⟩, ⟨139, 145, 267, 88⟩, ⟨146, 154, 267, 88⟩, ⟨155, 161, 267, 88⟩, ⟨162, 168, 267, 88⟩, ⟨169, 174, 267, 88⟩, ⟨175, 179, 267, 88⟩, ⟨180, 185, 267, 88⟩, ⟨186, 195, 267, 88⟩, ⟨196, 202, 267, 88⟩, ⟨203, 209, 267, 88⟩, ⟨210, 216, 267, 88⟩, ⟨217, 221, 267, 88⟩, ⟨222, 228, 267, 88⟩, ⟨229, 239, 267, 88⟩, ⟨240, 248, 267, 88⟩] (by rw [hTab]; rfl) (fun z hz => (List.mem_cons.mp hz).elim (fun q => by subst q; exact Or.inl (by decide)) (fun hz => (List.mem_cons.mp hz).elim (fun q => by subst q; exact Or.inl (by decide)) (fun hz => (List.mem_cons.mp hz).elim (fun q => by subst q; exact Or.inr ⟨by decide, _, hxl82, nc_3 hG⟩) (fun hz => (List.mem_cons.mp hz).elim (fun q => by subst q; exact Or.inl (by decide)) (fun hz => (List.mem_cons.mp hz).elim (fun q => by subst q; exact Or.inl (by decide)) (fun hz => (List.mem_cons.mp hz).elim (fun q => by subst q; exact Or.inl (by decide)) (fun hz => (List.mem_cons.mp hz).elim (fun q => by subst q; exact Or.inl (by decide)) (fun hz => (List.mem_cons.mp hz).elim (fun q => by subst q; exact Or.inl (by decide)) (fun hz => (List.mem_cons.mp hz).elim (fun q => by subst q; exact Or.inl (by decide)) (fun hz => (List.mem_cons.mp hz).elim (fun q => by subst q; exact Or.inl (by decide)) (fun hz => (List.mem_cons.mp hz).elim (fun q => by subst q; exact Or.inl (by decide)) (fun hz => (List.mem_cons.mp hz).elim (fun q => by subst q; exact Or.inl (by decide)) (fun hz => (List.mem_cons.mp hz).elim (fun q => by subst q; exact Or.inl (by decide)) (fun hz => (List.mem_cons.mp hz).elim (fun q => by subst q; exact Or.inl (by decide)) (fun hz => (List.mem_cons.mp hz).elim (fun q => by subst q; exact Or.inl (by decide)) (fun hz => (List.mem_cons.mp hz).elim (fun q => by subst q; exact Or.inl (by decide)) (fun hz => (List.mem_cons.mp hz).elim (fun q => by subst q; exact Or.inl (by decide)) (fun hz => (List.mem_cons.mp hz).elim (fun q => by subst q; exact Or.inl (by decide)) (fun hz => (List.mem_cons.mp hz).elim (fun q => by subst q; exact Or.inl (by decide)) (fun hz => (List.mem_cons.mp hz).elim (fun q => by subst q; exact Or.inl (by decide)) (fun hz => (List.mem_cons.mp hz).elim (fun q => by subst q; exact Or.inl (by decide)) (fun hz => (List.mem_cons.mp hz).elim (fun q => by subst q; exact Or.inl (by decide)) (fun hz => (List.mem_cons.mp hz).elim (fun q => by subst q; exact Or.inr ⟨by decide, _, hxl84, nc_4 hG⟩) (fun hz => (List.mem_cons.mp hz).elim (fun q => by subst q; exact Or.inl (by decide)) (fun hz => (List.mem_cons.mp hz).elim (fun q => by subst q; exact Or.inl (by decide)) (fun hz => (List.mem_cons.mp hz).elim (fun q => by subst q; exact Or.inl (by decide)) (fun hz => (List.mem_cons.mp hz).elim (fun q => by subst q; exact Or.inl (by decide)) (fun hz => (List.mem_cons.mp hz).elim (fun q => by subst q; exact Or.inl (by decide)) (fun hz => (List.mem_cons.mp hz).elim (fun q => by subst q; exact Or.inl (by decide)) (fun hz => (List.mem_cons.mp hz).elim (fun q => by subst q; exact Or.inl (by decide)) (fun hz => (List.mem_cons.mp hz).elim (fun q => by subst q; exact Or.inl (by decide)) (fun hz => (List.mem_cons.mp hz).elim (fun q => by subst q; exact Or.inl (by decide)) (fun hz => (List.mem_cons.mp hz).elim (fun q => by subst q; exact Or.inl (by decide)) (fun hz => (List.mem_cons.mp hz).elim (fun q => by subst q; exact Or.inl (by decide)) (fun hz => (List.mem_cons.mp hz).elim (fun q => by subst q; exact Or.inl (by decide)) (fun hz => (List.mem_cons.mp hz).elim (fun q => by subst q; exact Or.inl (by decide)) (fun hz => (List.mem_cons.mp hz).elim (fun q => by subst q; exact Or.inl (by decide)) (fun hz => (List.mem_cons.mp hz).elim (fun q => by subst q; exact Or.inl (by decide)) (fun hz => (List.mem_cons.mp hz).elim (fun q => by subst q; exact Or.inl (by decide)) (fun hz => (List.mem_cons.mp hz).elim (fun q => by subst q; exact Or.inl (by decide)) (fun hz => (List.mem_cons.mp hz).elim (fun q => by subst q; exact Or.inl (by decide)) (fun hz => (List.mem_cons.mp hz).elim (fun q => by subst q; exact Or.inl (by decide)) (fun hz => (List.mem_cons.mp hz).elim (fun q => by subst q; exact Or.inr ⟨by decide, _, hxl86, nc_5 hG⟩) (fun hz => (List.mem_cons.mp hz).elim (fun q => by subst q; exact Or.inl (by decide)) (fun hz => (List.mem_cons.mp hz).elim (fun q => by subst q; exact Or.inl (by decide)) (fun hz => (List.mem_cons.mp hz).elim (fun q => by subst q; exact Or.inl (by decide)) (fun hz => (List.mem_cons.mp hz).elim (fun q => by subst q; exact Or.inl (by decide)) (fun hz => (List.mem_cons.mp hz).elim (fun q => by subst q; exact Or.inl (by decide)) (fun hz => (List.mem_cons.mp hz).elim (fun q => by subst q; exact Or.inl (by decide)) (fun hz => (List.mem_cons.mp hz).elim (fun q => by subst q; exact Or.inl (by decide)) (fun hz => (List.mem_cons.mp hz).elim (fun q => by subst q; exact Or.inl (by decide)) (fun hz => (List.mem_cons.mp hz).elim (fun q => by subst q; exact Or.inl (by decide)) (fun hz => (List.mem_cons.mp hz).elim (fun q => by subst q; exact Or.inl (by decide)) (fun hz => (List.mem_cons.mp hz).elim (fun q => by subst q; exact Or.inl (by decide)) (fun hz => (List.mem_cons.mp hz).elim (fun q => by subst q; exact Or.inl (by decide)) (fun hz => (List.mem_cons.mp hz).elim (fun q => by subst q; exact Or.inl (by decide)) (fun hz => (List.mem_cons.mp hz).elim (fun q => by subst q; exact Or.inl (by decide)) (fun hz => (List.mem_cons.mp hz).elim (fun q => by subst q; exact Or.inl (by decide)) (fun hz => (List.mem_cons.mp hz).elim (fun q => by subst q; exact Or.inl (by decide)) (fun hz => (List.mem_cons.mp hz).elim (fun q => by subst q; exact Or.inl (by decide)) (fun hz => (List.mem_cons.mp hz).elim (fun q => by subst q; exact Or.inl (by decide)) (fun hz => (List.mem_cons.mp hz).elim (fun q => by subst q; exact Or.inl (by decide)) (fun hz => absurd hz List.not_mem_nil))))))))))))))))))))))))))))))))))))))))))))))))))))))))))))))) (by decide) (by decide) hxl88 (xc_2 hG) hce hcv hcl ?_
      have hS := hS9
      have ht_1 := ht
      refine lv_astore (lv' := [(5, .ref q9), (0, .ref t_p_), (1, .int 2), (2, .int a_), (3, .int b_), (4, .int c_)]) hx hb dL_asks_267 hl (by decide) rfl (fun ls hl => ?_)
      refine lv_sipush (v := (-20004)) hx hb dL_asks_269 (by decide) ?_
      refine W.widen (k := 4) (n := 24) (by omega) (by omega) ?_
      exact W.iret (v := (-20004)) hx hb hr (fun t ht hW => ⟨⟨(-20004), (ad_2, o_3, ()), rfl, ⟨hw, had_2⟩, ⟨P_at ht hP, hD⟩⟩, hS.F ht⟩) hS.2.2 dL_asks_272
  obtain ⟨ad_4, o_5⟩ := u_1
  obtain ⟨hw, had_4⟩ := hw_1
  rw [ht_1] at hB_1
  obtain ⟨hP1, hD1⟩ := hB_1
  obtain ⟨hP, hD⟩ := join_r hPs hDs hk_1 hFc hP1 hD1
  obtain ⟨hP, hD⟩ := seg_join [] [offS ad_4 tp_p_ hd_p_ tf_p_ cf_p_ g o_5] [offS ad_4 tp_p_ hd_p_ tf_p_ cf_p_ g o_5] 1 [0] rfl rfl (by decide) hP hD
  have hP : va_P (dC, dI) vwCl (offS ad_4 tp_p_ hd_p_ tf_p_ cf_p_ g o_5) H_1 := hP
  have hD : va_D A (offS ad_4 tp_p_ hd_p_ tf_p_ cf_p_ g o_5) := hD
  refine W.widen (k := 4) (n := 24) (by omega) (by omega) ?_
  refine W.widen (k := 4) (n := 24) (by omega) (by omega) ?_
  exact W.iret (v := r_1) hx hb hr (fun t ht hW => ⟨⟨r_1, (ad_4, o_5, ()), rfl, ⟨hw, had_4⟩, ⟨P_at ht hP, hD⟩⟩, hS.F ht⟩) hS.2.2 dL_asks_122
theorem dL_asks_123 : decode cL_asks 123 = .ok (.aload_n 0, 1) := by decide +kernel
theorem dL_asks_124 : decode cL_asks 124 = .ok (.iload_n 2, 1) := by decide +kernel
theorem dL_asks_125 : decode cL_asks 125 = .ok (.iload_n 3, 1) := by decide +kernel
theorem dL_asks_126 : decode cL_asks 126 = .ok (.invokevirtual 30, 3) := by decide +kernel
theorem dL_asks_129 : decode cL_asks 129 = .ok (.ireturn, 1) := by decide +kernel

set_option maxHeartbeats 8000000 in
set_option maxRecDepth 100000 in
theorem c_L_asks_3 (l : Launch) (hlf : l.stackTraces = false) (dC : Nat → ClassId) (dI : Nat → Nat → Nat) (g : Nat → ClassId) (tp_p_ hd_p_ : Nat → Nat) (tf_p_ cf_p_ : Nat → Option Nat) (htf_p_ : ∀ j, j < 8 → tf_p_ j = some (tp_p_ j)) (hcf_p_ : ∀ j, j < 8 → cf_p_ j = some (tp_p_ (8 + j))) (a_p_ : Nat → Nat) (t_p_ : Nat) (h_p_ : a_p_ 0 = t_p_) (o_p_ : OS) (a_ : Int32) (b_ : Int32) (c_ : Int32) (Q : Int32 → OS → Prop) (hw : wp_L_asks_3 o_p_ a_ b_ Q) (sz : Nat) : Met l yL_asks wqL_asks ({ frames := 8, cells := 2, slots := 12, locals := 126 }) (va_Pc [.ref t_p_, .int 3, .int a_, .int b_, .int c_] (PG (dC, dI) g (offS a_p_ tp_p_ hd_p_ tf_p_ cf_p_ g o_p_) sz)) (va_Qi (fun (r : Int32) (u : (Nat → Nat) × OS × Unit) => Q r u.2.1 ∧ u.1 0 = t_p_) (fun (u : (Nat → Nat) × OS × Unit) t9 => va_P (dC, dI) vwCl (offS u.1 tp_p_ hd_p_ tf_p_ cf_p_ g u.2.1) t9.heap ∧ va_D (va_A (offS a_p_ tp_p_ hd_p_ tf_p_ cf_p_ g o_p_) sz) (offS u.1 tp_p_ hd_p_ tf_p_ cf_p_ g u.2.1)) (va_A (offS a_p_ tp_p_ hd_p_ tf_p_ cf_p_ g o_p_) sz)) 2 12 (va_A (offS a_p_ tp_p_ hd_p_ tf_p_ cf_p_ g o_p_) sz) := by
  refine mt_ofWH (cc := cL_asks) (maxL := 6) (ret := (some .int)) (hh := [(0, 100, 249, 82), (101, 111, 249, 82), (112, 122, 249, 82), (123, 129, 249, 82), (130, 138, 249, 82), (139, 145, 249, 82), (146, 154, 249, 82), (155, 161, 249, 82), (162, 168, 249, 82), (169, 174, 249, 82), (175, 179, 249, 82), (180, 185, 249, 82), (186, 195, 249, 82), (196, 202, 249, 82), (203, 209, 249, 82), (210, 216, 249, 82), (217, 221, 249, 82), (222, 228, 249, 82), (229, 239, 249, 82), (240, 248, 249, 82), (0, 100, 255, 84), (101, 111, 255, 84), (112, 122, 255, 84), (123, 129, 255, 84), (130, 138, 255, 84), (139, 145, 255, 84), (146, 154, 255, 84), (155, 161, 255, 84), (162, 168, 255, 84), (169, 174, 255, 84), (175, 179, 255, 84), (180, 185, 255, 84), (186, 195, 255, 84), (196, 202, 255, 84), (203, 209, 255, 84), (210, 216, 255, 84), (217, 221, 255, 84), (222, 228, 255, 84), (229, 239, 255, 84), (240, 248, 255, 84), (0, 100, 261, 86), (101, 111, 261, 86), (112, 122, 261, 86), (123, 129, 261, 86), (130, 138, 261, 86), (139, 145, 261, 86), (146, 154, 261, 86), (155, 161, 261, 86), (162, 168, 261, 86), (169, 174, 261, 86), (175, 179, 261, 86), (180, 185, 261, 86), (186, 195, 261, 86), (196, 202, 261, 86), (203, 209, 261, 86), (210, 216, 261, 86), (217, 221, 261, 86), (222, 228, 261, 86), (229, 239, 261, 86), (240, 248, 261, 86), (0, 100, 267, 88), (101, 111, 267, 88), (112, 122, 267, 88), (123, 129, 267, 88), (130, 138, 267, 88), (139, 145, 267, 88), (146, 154, 267, 88), (155, 161, 267, 88), (162, 168, 267, 88), (169, 174, 267, 88), (175, 179, 267, 88), (180, 185, 267, 88), (186, 195, 267, 88), (196, 202, 267, 88), (203, 209, 267, 88), (210, 216, 267, 88), (217, 221, 267, 88), (222, 228, 267, 88), (229, 239, 267, 88), (240, 248, 267, 88)]) (by decide) rfl ?_
  intro p e s m args below meth c s₁ B hml hv
  obtain ⟨rfl, hsz, hP, hK, hD0, hG⟩ := hv
  have hx := B.exec
  have hb := B.bytes
  have hr := B.returns
  have hts := atoms_spec (ws := wqL_asks) B.pre
  have hown : s.vm.findClass RL = some m.cls := findClass_of_methodNamed B.named
  have hlocks := B.notSynchronized
  subst hsz
  have hD := hD0.self (sz := s.heap.size)
  generalize hAe : va_A (offS a_p_ tp_p_ hd_p_ tf_p_ cf_p_ g o_p_) s.heap.size = A at hD hG ⊢
  have hA : ∀ q : Nat, s.heap.size ≤ q → A q := fun q h => by rw [← hAe]; exact Or.inr h
  have hS : va_S A s.heap s.heap [] := va_S.rf
  have hrc : (headSpec wqL_asks ({ frames := 8, cells := 2, slots := 12, locals := 126 })).room.cells = 2 := rfl
  have hrs : (headSpec wqL_asks ({ frames := 8, cells := 2, slots := 12, locals := 126 })).room.slots = 12 := rfl
  have hTab := vx_table (x := yL_asks) B (hts (Cond.codeWith yL_asks cL_asks 6 (some .int) [(0, 100, 249, 82), (101, 111, 249, 82), (112, 122, 249, 82), (123, 129, 249, 82), (130, 138, 249, 82), (139, 145, 249, 82), (146, 154, 249, 82), (155, 161, 249, 82), (162, 168, 249, 82), (169, 174, 249, 82), (175, 179, 249, 82), (180, 185, 249, 82), (186, 195, 249, 82), (196, 202, 249, 82), (203, 209, 249, 82), (210, 216, 249, 82), (217, 221, 249, 82), (222, 228, 249, 82), (229, 239, 249, 82), (240, 248, 249, 82), (0, 100, 255, 84), (101, 111, 255, 84), (112, 122, 255, 84), (123, 129, 255, 84), (130, 138, 255, 84), (139, 145, 255, 84), (146, 154, 255, 84), (155, 161, 255, 84), (162, 168, 255, 84), (169, 174, 255, 84), (175, 179, 255, 84), (180, 185, 255, 84), (186, 195, 255, 84), (196, 202, 255, 84), (203, 209, 255, 84), (210, 216, 255, 84), (217, 221, 255, 84), (222, 228, 255, 84), (229, 239, 255, 84), (240, 248, 255, 84), (0, 100, 261, 86), (101, 111, 261, 86), (112, 122, 261, 86), (123, 129, 261, 86), (130, 138, 261, 86), (139, 145, 261, 86), (146, 154, 261, 86), (155, 161, 261, 86), (162, 168, 261, 86), (169, 174, 261, 86), (175, 179, 261, 86), (180, 185, 261, 86), (186, 195, 261, 86), (196, 202, 261, 86), (203, 209, 261, 86), (210, 216, 261, 86), (217, 221, 261, 86), (222, 228, 261, 86), (229, 239, 261, 86), (240, 248, 261, 86), (0, 100, 267, 88), (101, 111, 267, 88), (112, 122, 267, 88), (123, 129, 267, 88), (130, 138, 267, 88), (139, 145, 267, 88), (146, 154, 267, 88), (155, 161, 267, 88), (162, 168, 267, 88), (169, 174, 267, 88), (175, 179, 267, 88), (180, 185, 267, 88), (186, 195, 267, 88), (196, 202, 267, 88), (203, 209, 267, 88), (210, 216, 267, 88), (217, 221, 267, 88), (222, 228, 267, 88), (229, 239, 267, 88), (240, 248, 267, 88)]) (List.mem_cons_self))
  have hl := lv_entry ([.ref t_p_, .int 3, .int a_, .int b_, .int c_]) (n := 6) (Nat.le_of_ble_eq_true rfl)
  rw [lg_entry_eq]
  generalize (lg_sl ([.ref t_p_, .int 3, .int a_, .int b_, .int c_]) ++ List.replicate (6 - (lg_sl ([.ref t_p_, .int 3, .int a_, .int b_, .int c_])).length) Slot.unset).toArray = ls at hl ⊢
  have hl : lv_has ls 6 [(0, .ref t_p_), (1, .int 3), (2, .int a_), (3, .int b_), (4, .int c_)] := hl
  unfold wp_L_asks_3 at hw
  have hxl82 := hts (Cond.classLink RL 82 "java/lang/IndexOutOfBoundsException") (aw_l aw_4_48)
  have hxl84 := hts (Cond.classLink RL 84 "java/util/NoSuchElementException") (aw_l aw_4_49)
  have hxl86 := hts (Cond.classLink RL 86 "java/lang/IllegalArgumentException") (aw_l aw_4_50)
  have hxl88 := hts (Cond.classLink RL 88 "java/lang/IllegalStateException") (aw_l aw_4_51)
  refine lv_iload_n hx hb dL_asks_0 rfl (lv_at hl 1 rfl) ?_
  refine lv_tableIn (tgt := 123) hx hb dL_asks_1 (by decide) (by decide) rfl (by decide) ?_
  refine lv_aload_n hx hb dL_asks_123 rfl (lv_at hl 0 rfl) ?_
  refine lv_iload_n hx hb dL_asks_124 rfl (lv_at hl 2 rfl) ?_
  refine lv_iload_n hx hb dL_asks_125 rfl (lv_at hl 3 rfl) ?_
  obtain ⟨hPs, hDs⟩ := seg_call (segs := [offS a_p_ tp_p_ hd_p_ tf_p_ cf_p_ g o_p_]) [] [offS a_p_ tp_p_ hd_p_ tf_p_ cf_p_ g o_p_] 1 [0] rfl rfl (by decide) hP hD
  have hPc : va_P (dC, dI) vwCl (offS a_p_ tp_p_ hd_p_ tf_p_ cf_p_ g o_p_) s.heap := P_r hPs
  have hDc : va_D A (offS a_p_ tp_p_ hd_p_ tf_p_ cf_p_ g o_p_) := D_r hDs
  have hFc : ∀ q, va_A (offS a_p_ tp_p_ hd_p_ tf_p_ cf_p_ g o_p_) s.heap.size q → A q := A_all hDc hA hS.1
  refine vx_calli (vx_runV (As := [.int a_, .int b_]) (rest := []) ⟨hx, hb, hml, hown, hts⟩ (p_at l hlf dC dI g tp_p_ hd_p_ tf_p_ cf_p_ htf_p_ hcf_p_ a_p_ t_p_ h_p_ o_p_ a_ b_ (hw := hw) (sz := s.heap.size)) (cwV 2 hts (gqV aw_3_165 aw_3_166 aw_3_167 aw_1_1 aw_3_168) rfl rfl rfl (by decide +kernel) ⟨Nat.le_of_ble_eq_true rfl, Nat.le_of_ble_eq_true rfl⟩) ⟨PG_blind, off_recv h_p_ hK hPc, PG_call hK hG hS hPc hDc hFc⟩ rfl rfl hl.1 rfl (lv_room (Nat.le_of_ble_eq_true rfl)) dL_asks_126 ⟨by rw [hrc]; omega, by rw [hrs]; omega⟩) hS (fun q _ h => hFc q h) hFc (fun q _ h => hFc q h) (fun E ce q9 ux t H1 locs1 ht hvm hp9 hB9 hz hk hS9 hce hcv hcl => ?_) (fun r_1 u_1 t_1 H_1 L_1 ht_1 hvm_1 hw_1 hB_1 hz_1 hk_1 hS => ?_)
  · obtain ⟨ad_2, o_3⟩ := ux
    obtain ⟨⟨hw9, had_2⟩, hB9⟩ := hB9
    rw [ht] at hB9
    obtain ⟨hP1, hD1⟩ := hB9
    obtain ⟨hP, hD⟩ := join_r hPs hDs hk hFc hP1 hD1
    obtain ⟨hP, hD⟩ := seg_join [] [offS ad_2 tp_p_ hd_p_ tf_p_ cf_p_ g o_3] [offS ad_2 tp_p_ hd_p_ tf_p_ cf_p_ g o_3] 1 [0] rfl rfl (by decide) hP hD
    have hP : va_P (dC, dI) vwCl (offS ad_2 tp_p_ hd_p_ tf_p_ cf_p_ g o_3) H1 := hP
    have hD : va_D A (offS ad_2 tp_p_ hd_p_ tf_p_ cf_p_ g o_3) := hD
    rcases hw9 with ⟨rfl, hw⟩ | ⟨rfl, hw⟩ | ⟨rfl, hw⟩ | ⟨rfl, hw⟩
    · refine vx_catch (own := RL) (name := "java/lang/IndexOutOfBoundsException") (E := "java/lang/IndexOutOfBoundsException") hown [⟨0, 100, 249, 82⟩, ⟨101, 111, 249, 82⟩, ⟨112, 122, 249, 82⟩] ⟨123, 129, 249, 82⟩ [⟨130, 138, 249, 82⟩, ⟨139, 145, 249, 82⟩, ⟨146, 154, 249, 82⟩, ⟨155, 161, 249, 82⟩, ⟨162, 168, 249, 82⟩, ⟨169, 174, 249, 82⟩, ⟨175, 179, 249, 82⟩, ⟨180, 185, 249, 82⟩, ⟨186, 195, 249, 82⟩, ⟨196, 202, 249, 82⟩, ⟨203, 209, 249, 82⟩, ⟨210, 216, 249, 82⟩, ⟨217, 221, 249, 82⟩, ⟨222, 228, 249, 82⟩, ⟨229, 239, 249, 82⟩, ⟨240, 248, 249, 82⟩, ⟨0, 100, 255, 84⟩, ⟨101, 111, 255, 84⟩, ⟨112, 122, 255, 84⟩, ⟨123, 129, 255, 84⟩, ⟨130, 138, 255, 84⟩, ⟨139, 145, 255, 84⟩, ⟨146, 154, 255, 84⟩, ⟨155, 161, 255, 84⟩, ⟨162, 168, 255, 84⟩, ⟨169, 174, 255, 84⟩, ⟨175, 179, 255, 84⟩, ⟨180, 185, 255, 84⟩, ⟨186, 195, 255, 84⟩, ⟨196, 202, 255, 84⟩, ⟨203, 209, 255, 84⟩, ⟨210, 216, 255, 84⟩, ⟨217, 221, 255, 84⟩, ⟨222, 228, 255, 84⟩, ⟨229, 239, 255, 84⟩, ⟨240, 248, 255, 84⟩, ⟨0, 100, 261, 86⟩, ⟨101, 111, 261, 86⟩, ⟨112, 122, 261, 86⟩, ⟨123, 129, 261, 86⟩, ⟨130, 138, 261, 86⟩, ⟨139, 145, 261, 86⟩, ⟨146, 154, 261, 86⟩, ⟨155, 161, 261, 86⟩, ⟨162, 168, 261, 86⟩, ⟨169, 174, 261, 86⟩, ⟨175, 179, 261, 86⟩, ⟨180, 185, 261, 86⟩, ⟨186, 195, 261, 86⟩, ⟨196, 202, 261, 86⟩, ⟨203, 209, 261, 86⟩, ⟨210, 216, 261, 86⟩, ⟨217, 221, 261, 86⟩, ⟨222, 228, 261, 86⟩, ⟨229, 239, 261, 86⟩, ⟨240, 248, 261, 86⟩, ⟨0, 100, 267, 88⟩, ⟨101, 111, 267, 88⟩, ⟨112, 122, 267, 88⟩, ⟨123, 129, 267, 88⟩, ⟨130, 138, 267, 88⟩, ⟨139, 145, 267, 88⟩, ⟨146, 154, 267, 88⟩, ⟨155, 161, 267, 88⟩, ⟨162, 168, 267, 88⟩, ⟨169, 174, 267, 88⟩, ⟨175, 179, 267, 88⟩, ⟨180, 185, 267, 88⟩, ⟨186, 195, 267, 88⟩, ⟨196, 202, 267, 88⟩, ⟨203, 209, 267, 88⟩, ⟨210, 216, 267, 88⟩, ⟨217, 221, 267, 88⟩, ⟨222, 228, 267, 88⟩, ⟨229, 239, 267, 88⟩, ⟨240, 248, 267, 88⟩] (by rw [hTab]; rfl) (fun z hz => (List.mem_cons.mp hz).elim (fun q => by subst q; exact Or.inl (by decide)) (fun hz => (List.mem_cons.mp hz).elim (fun q => by subst q; exact Or.inl (by decide)) (fun hz => (List.mem_cons.mp hz).elim (fun q => by subst q; exact Or.inl (by decide)) (fun hz => absurd hz List.not_mem_nil)))) (by decide) (by decide) hxl82 (xc_0 hG) hce hcv hcl ?_
      have hS := hS9
      have ht_1 := ht
      refine lv_astore (lv' := [(5, .ref q9), (0, .ref t_p_), (1, .int 3), (2, .int a_), (3, .int b_), (4, .int c_)]) hx hb dL_asks_249 hl (by decide) rfl (fun ls hl => ?_)
      refine lv_sipush (v := (-20001)) hx hb dL_asks_251 (by decide) ?_
      refine W.widen (k := 2) (n := 12) (by omega) (by omega) ?_
      exact W.iret (v := (-20001)) hx hb hr (fun t ht hW => ⟨⟨(-20001), (ad_2, o_3, ()), rfl, ⟨hw, had_2⟩, ⟨P_at ht hP, hD⟩⟩, hS.F ht⟩) hS.2.2 dL_asks_254
    · refine vx_catch (own := RL) (name := "java/util/NoSuchElementException") (E := "java/util/NoSuchElementException") hown [⟨0, 100, 249, 82⟩, ⟨101, 111, 249, 82⟩, ⟨112, 122, 249, 82⟩, ⟨123, 129, 249, 82⟩, ⟨130, 138, 249, 82⟩, ⟨139, 145, 249, 82⟩, ⟨146, 154, 249, 82⟩, ⟨155, 161, 249, 82⟩, ⟨162, 168, 249, 82⟩, ⟨169, 174, 249, 82⟩, ⟨175, 179, 249, 82⟩, ⟨180, 185, 249, 82⟩, ⟨186, 195, 249, 82⟩, ⟨196, 202, 249, 82⟩, ⟨203, 209, 249, 82⟩, ⟨210, 216, 249, 82⟩, ⟨217, 221, 249, 82⟩, ⟨222, 228, 249, 82⟩, ⟨229, 239, 249, 82⟩, ⟨240, 248, 249, 82⟩, ⟨0, 100, 255, 84⟩, ⟨101, 111, 255, 84⟩, ⟨112, 122, 255, 84⟩] ⟨123, 129, 255, 84⟩ [⟨130, 138, 255, 84⟩, ⟨139, 145, 255, 84⟩, ⟨146, 154, 255, 84⟩, ⟨155, 161, 255, 84⟩, ⟨162, 168, 255, 84⟩, ⟨169, 174, 255, 84⟩, ⟨175, 179, 255, 84⟩, ⟨180, 185, 255, 84⟩, ⟨186, 195, 255, 84⟩, ⟨196, 202, 255, 84⟩, ⟨203, 209, 255, 84⟩, ⟨210, 216, 255, 84⟩, ⟨217, 221, 255, 84⟩, ⟨222, 228, 255, 84⟩, ⟨229, 239, 255, 84⟩, ⟨240, 248, 255, 84⟩, ⟨0, 100, 261, 86⟩, ⟨101, 111, 261, 86⟩, ⟨112, 122, 261, 86⟩, ⟨123, 129, 261, 86⟩, ⟨130, 138, 261, 86⟩, ⟨139, 145, 261, 86⟩, ⟨146, 154, 261, 86⟩, ⟨155, 161, 261, 86⟩, ⟨162, 168, 261, 86⟩, ⟨169, 174, 261, 86⟩, ⟨175, 179, 261, 86⟩, ⟨180, 185, 261, 86⟩, ⟨186, 195, 261, 86⟩, ⟨196, 202, 261, 86⟩, ⟨203, 209, 261, 86⟩, ⟨210, 216, 261, 86⟩, ⟨217, 221, 261, 86⟩, ⟨222, 228, 261, 86⟩, ⟨229, 239, 261, 86⟩, ⟨240, 248, 261, 86⟩, ⟨0, 100, 267, 88⟩, ⟨101, 111, 267, 88⟩, ⟨112, 122, 267, 88⟩, ⟨123, 129, 267, 88⟩, ⟨130, 138, 267, 88⟩, ⟨139, 145, 267, 88⟩, ⟨146, 154, 267, 88⟩, ⟨155, 161, 267, 88⟩, ⟨162, 168, 267, 88⟩, ⟨169, 174, 267, 88⟩, ⟨175, 179, 267, 88⟩, ⟨180, 185, 267, 88⟩, ⟨186, 195, 267, 88⟩, ⟨196, 202, 267, 88⟩, ⟨203, 209, 267, 88⟩, ⟨210, 216, 267, 88⟩, ⟨217, 221, 267, 88⟩, ⟨222, 228, 267, 88⟩, ⟨229, 239, 267, 88⟩, ⟨240, 248, 267, 88⟩] (by rw [hTab]; rfl) (fun z hz => (List.mem_cons.mp hz).elim (fun q => by subst q; exact Or.inl (by decide)) (fun hz => (List.mem_cons.mp hz).elim (fun q => by subst q; exact Or.inl (by decide)) (fun hz => (List.mem_cons.mp hz).elim (fun q => by subst q; exact Or.inl (by decide)) (fun hz => (List.mem_cons.mp hz).elim (fun q => by subst q; exact Or.inr ⟨by decide, _, hxl82, nc_0 hG⟩) (fun hz => (List.mem_cons.mp hz).elim (fun q => by subst q; exact Or.inl (by decide)) (fun hz => (List.mem_cons.mp hz).elim (fun q => by subst q; exact Or.inl (by decide)) (fun hz => (List.mem_cons.mp hz).elim (fun q => by subst q; exact Or.inl (by decide)) (fun hz => (List.mem_cons.mp hz).elim (fun q => by subst q; exact Or.inl (by decide)) (fun hz => (List.mem_cons.mp hz).elim (fun q => by subst q; exact Or.inl (by decide)) (fun hz => (List.mem_cons.mp hz).elim (fun q => by subst q; exact Or.inl (by decide)) (fun hz => (List.mem_cons.mp hz).elim (fun q => by subst q; exact Or.inl (by decide)) (fun hz => (List.mem_cons.mp hz).elim (fun q => by subst q; exact Or.inl (by decide)) (fun hz => (List.mem_cons.mp hz).elim (fun q => by subst q; exact Or.inl (by decide)) (fun hz => (List.mem_cons.mp hz).elim (fun q => by subst q; exact Or.inl (by decide)) (fun hz => (List.mem_cons.mp hz).elim (fun q => by subst q; exact Or.inl (by decide)) (fun hz => (List.mem_cons.mp hz).elim (fun q => by subst q; exact Or.inl (by decide)) (fun hz => (List.mem_cons.mp hz).elim (fun q => by subst q; exact Or.inl (by decide)) (fun hz => (List.mem_cons.mp hz).elim (fun q => by subst q; exact Or.inl (by decide)) (fun hz => (List.mem_cons.mp hz).elim (fun q => by subst q; exact Or.inl (by decide)) (fun hz => (List.mem_cons.mp hz).elim (fun q => by subst q; exact Or.inl (by decide)) (fun hz => (List.mem_cons.mp hz).elim (fun q => by subst q; exact Or.inl (by decide)) (fun hz => (List.mem_cons.mp hz).elim (fun q => by subst q; exact Or.inl (by decide)) (fun hz => (List.mem_cons.mp hz).elim (fun q => by subst q; exact Or.inl (by decide)) (fun hz => absurd hz List.not_mem_nil)))))))))))))))))))))))) (by decide) (by decide) hxl84 (xc_3 hG) hce hcv hcl ?_
      have hS := hS9
      have ht_1 := ht
      refine lv_astore (lv' := [(5, .ref q9), (0, .ref t_p_), (1, .int 3), (2, .int a_), (3, .int b_), (4, .int c_)]) hx hb dL_asks_255 hl (by decide) rfl (fun ls hl => ?_)
      refine lv_sipush (v := (-20002)) hx hb dL_asks_257 (by decide) ?_
      refine W.widen (k := 2) (n := 12) (by omega) (by omega) ?_
      exact W.iret (v := (-20002)) hx hb hr (fun t ht hW => ⟨⟨(-20002), (ad_2, o_3, ()), rfl, ⟨hw, had_2⟩, ⟨P_at ht hP, hD⟩⟩, hS.F ht⟩) hS.2.2 dL_asks_260
    · refine vx_catch (own := RL) (name := "java/lang/IllegalArgumentException") (E := "java/lang/IllegalArgumentException") hown [⟨0, 100, 249, 82⟩, ⟨101, 111, 249, 82⟩, ⟨112, 122, 249, 82⟩, ⟨123, 129, 249, 82⟩, ⟨130, 138, 249, 82⟩, ⟨139, 145, 249, 82⟩, ⟨146, 154, 249, 82⟩, ⟨155, 161, 249, 82⟩, ⟨162, 168, 249, 82⟩, ⟨169, 174, 249, 82⟩, ⟨175, 179, 249, 82⟩, ⟨180, 185, 249, 82⟩, ⟨186, 195, 249, 82⟩, ⟨196, 202, 249, 82⟩, ⟨203, 209, 249, 82⟩, ⟨210, 216, 249, 82⟩, ⟨217, 221, 249, 82⟩, ⟨222, 228, 249, 82⟩, ⟨229, 239, 249, 82⟩, ⟨240, 248, 249, 82⟩, ⟨0, 100, 255, 84⟩, ⟨101, 111, 255, 84⟩, ⟨112, 122, 255, 84⟩, ⟨123, 129, 255, 84⟩, ⟨130, 138, 255, 84⟩, ⟨139, 145, 255, 84⟩, ⟨146, 154, 255, 84⟩, ⟨155, 161, 255, 84⟩, ⟨162, 168, 255, 84⟩, ⟨169, 174, 255, 84⟩, ⟨175, 179, 255, 84⟩, ⟨180, 185, 255, 84⟩, ⟨186, 195, 255, 84⟩, ⟨196, 202, 255, 84⟩, ⟨203, 209, 255, 84⟩, ⟨210, 216, 255, 84⟩, ⟨217, 221, 255, 84⟩, ⟨222, 228, 255, 84⟩, ⟨229, 239, 255, 84⟩, ⟨240, 248, 255, 84⟩, ⟨0, 100, 261, 86⟩, ⟨101, 111, 261, 86⟩, ⟨112, 122, 261, 86⟩] ⟨123, 129, 261, 86⟩ [⟨130, 138, 261, 86⟩, ⟨139, 145, 261, 86⟩, ⟨146, 154, 261, 86⟩, ⟨155, 161, 261, 86⟩, ⟨162, 168, 261, 86⟩, ⟨169, 174, 261, 86⟩, ⟨175, 179, 261, 86⟩, ⟨180, 185, 261, 86⟩, ⟨186, 195, 261, 86⟩, ⟨196, 202, 261, 86⟩, ⟨203, 209, 261, 86⟩, ⟨210, 216, 261, 86⟩, ⟨217, 221, 261, 86⟩, ⟨222, 228, 261, 86⟩, ⟨229, 239, 261, 86⟩, ⟨240, 248, 261, 86⟩, ⟨0, 100, 267, 88⟩, ⟨101, 111, 267, 88⟩, ⟨112, 122, 267, 88⟩, ⟨123, 129, 267, 88⟩, ⟨130, 138, 267, 88⟩, ⟨139, 145, 267, 88⟩, ⟨146, 154, 267, 88⟩, ⟨155, 161, 267, 88⟩, ⟨162, 168, 267, 88⟩, ⟨169, 174, 267, 88⟩, ⟨175, 179, 267, 88⟩, ⟨180, 185, 267, 88⟩, ⟨186, 195, 267, 88⟩, ⟨196, 202, 267, 88⟩, ⟨203, 209, 267, 88⟩, ⟨210, 216, 267, 88⟩, ⟨217, 221, 267, 88⟩, ⟨222, 228, 267, 88⟩, ⟨229, 239, 267, 88⟩, ⟨240, 248, 267, 88⟩] (by rw [hTab]; rfl) (fun z hz => (List.mem_cons.mp hz).elim (fun q => by subst q; exact Or.inl (by decide)) (fun hz => (List.mem_cons.mp hz).elim (fun q => by subst q; exact Or.inl (by decide)) (fun hz => (List.mem_cons.mp hz).elim (fun q => by subst q; exact Or.inl (by decide)) (fun hz => (List.mem_cons.mp hz).elim (fun q => by subst q; exact Or.inr ⟨by decide, _, hxl82, nc_1 hG⟩) (fun hz => (List.mem_cons.mp hz).elim (fun q => by subst q; exact Or.inl (by decide)) (fun hz => (List.mem_cons.mp hz).elim (fun q => by subst q; exact Or.inl (by decide)) (fun hz => (List.mem_cons.mp hz).elim (fun q => by subst q; exact Or.inl (by decide)) (fun hz => (List.mem_cons.mp hz).elim (fun q => by subst q; exact Or.inl (by decide)) (fun hz => (List.mem_cons.mp hz).elim (fun q => by subst q; exact Or.inl (by decide)) (fun hz => (List.mem_cons.mp hz).elim (fun q => by subst q; exact Or.inl (by decide)) (fun hz => (List.mem_cons.mp hz).elim (fun q => by subst q; exact Or.inl (by decide)) (fun hz => (List.mem_cons.mp hz).elim (fun q => by subst q; exact Or.inl (by decide)) (fun hz => (List.mem_cons.mp hz).elim (fun q => by subst q; exact Or.inl (by decide)) (fun hz => (List.mem_cons.mp hz).elim (fun q => by subst q; exact Or.inl (by decide)) (fun hz => (List.mem_cons.mp hz).elim (fun q => by subst q; exact Or.inl (by decide)) (fun hz => (List.mem_cons.mp hz).elim (fun q => by subst q; exact Or.inl (by decide)) (fun hz => (List.mem_cons.mp hz).elim (fun q => by subst q; exact Or.inl (by decide)) (fun hz => (List.mem_cons.mp hz).elim (fun q => by subst q; exact Or.inl (by decide)) (fun hz => (List.mem_cons.mp hz).elim (fun q => by subst q; exact Or.inl (by decide)) (fun hz => (List.mem_cons.mp hz).elim (fun q => by subst q; exact Or.inl (by decide)) (fun hz => (List.mem_cons.mp hz).elim (fun q => by subst q; exact Or.inl (by decide)) (fun hz => (List.mem_cons.mp hz).elim (fun q => by subst q; exact Or.inl (by decide)) (fun hz => (List.mem_cons.mp hz).elim (fun q => by subst q; exact Or.inl (by decide)) (fun hz => (List.mem_cons.mp hz).elim (fun q => by subst q; exact Or.inr ⟨by decide, _, hxl84, nc_2 hG⟩) (fun hz => (List.mem_cons.mp hz).elim (fun q => by subst q; exact Or.inl (by decide)) (fun hz => (List.mem_cons.mp hz).elim (fun q => by subst q; exact Or.inl (by decide)) (fun hz => (List.mem_cons.mp hz).elim (fun q => by subst q; exact Or.inl (by decide)) (fun hz => (List.mem_cons.mp hz).elim (fun q => by subst q; exact Or.inl (by decide)) (fun hz => (List.mem_cons.mp hz).elim (fun q => by subst q; exact Or.inl (by decide)) (fun hz => (List.mem_cons.mp hz).elim (fun q => by subst q; exact Or.inl (by decide)) (fun hz => (List.mem_cons.mp hz).elim (fun q => by subst q; exact Or.inl (by decide)) (fun hz => (List.mem_cons.mp hz).elim (fun q => by subst q; exact Or.inl (by decide)) (fun hz => (List.mem_cons.mp hz).elim (fun q => by subst q; exact Or.inl (by decide)) (fun hz => (List.mem_cons.mp hz).elim (fun q => by subst q; exact Or.inl (by decide)) (fun hz => (List.mem_cons.mp hz).elim (fun q => by subst q; exact Or.inl (by decide)) (fun hz => (List.mem_cons.mp hz).elim (fun q => by subst q; exact Or.inl (by decide)) (fun hz => (List.mem_cons.mp hz).elim (fun q => by subst q; exact Or.inl (by decide)) (fun hz => (List.mem_cons.mp hz).elim (fun q => by subst q; exact Or.inl (by decide)) (fun hz => (List.mem_cons.mp hz).elim (fun q => by subst q; exact Or.inl (by decide)) (fun hz => (List.mem_cons.mp hz).elim (fun q => by subst q; exact Or.inl (by decide)) (fun hz => (List.mem_cons.mp hz).elim (fun q => by subst q; exact Or.inl (by decide)) (fun hz => (List.mem_cons.mp hz).elim (fun q => by subst q; exact Or.inl (by decide)) (fun hz => (List.mem_cons.mp hz).elim (fun q => by subst q; exact Or.inl (by decide)) (fun hz => absurd hz List.not_mem_nil)))))))))))))))))))))))))))))))))))))))))))) (by decide) (by decide) hxl86 (xc_1 hG) hce hcv hcl ?_
      have hS := hS9
      have ht_1 := ht
      refine lv_astore (lv' := [(5, .ref q9), (0, .ref t_p_), (1, .int 3), (2, .int a_), (3, .int b_), (4, .int c_)]) hx hb dL_asks_261 hl (by decide) rfl (fun ls hl => ?_)
      refine lv_sipush (v := (-20003)) hx hb dL_asks_263 (by decide) ?_
      refine W.widen (k := 2) (n := 12) (by omega) (by omega) ?_
      exact W.iret (v := (-20003)) hx hb hr (fun t ht hW => ⟨⟨(-20003), (ad_2, o_3, ()), rfl, ⟨hw, had_2⟩, ⟨P_at ht hP, hD⟩⟩, hS.F ht⟩) hS.2.2 dL_asks_266
    · refine vx_catch (own := RL) (name := "java/lang/IllegalStateException") (E := "java/lang/IllegalStateException") hown [⟨0, 100, 249, 82⟩, ⟨101, 111, 249, 82⟩, ⟨112, 122, 249, 82⟩, ⟨123, 129, 249, 82⟩, ⟨130, 138, 249, 82⟩, ⟨139, 145, 249, 82⟩, ⟨146, 154, 249, 82⟩, ⟨155, 161, 249, 82⟩, ⟨162, 168, 249, 82⟩, ⟨169, 174, 249, 82⟩, ⟨175, 179, 249, 82⟩, ⟨180, 185, 249, 82⟩, ⟨186, 195, 249, 82⟩, ⟨196, 202, 249, 82⟩, ⟨203, 209, 249, 82⟩, ⟨210, 216, 249, 82⟩, ⟨217, 221, 249, 82⟩, ⟨222, 228, 249, 82⟩, ⟨229, 239, 249, 82⟩, ⟨240, 248, 249, 82⟩, ⟨0, 100, 255, 84⟩, ⟨101, 111, 255, 84⟩, ⟨112, 122, 255, 84⟩, ⟨123, 129, 255, 84⟩, ⟨130, 138, 255, 84⟩, ⟨139, 145, 255, 84⟩, ⟨146, 154, 255, 84⟩, ⟨155, 161, 255, 84⟩, ⟨162, 168, 255, 84⟩, ⟨169, 174, 255, 84⟩, ⟨175, 179, 255, 84⟩, ⟨180, 185, 255, 84⟩, ⟨186, 195, 255, 84⟩, ⟨196, 202, 255, 84⟩, ⟨203, 209, 255, 84⟩, ⟨210, 216, 255, 84⟩, ⟨217, 221, 255, 84⟩, ⟨222, 228, 255, 84⟩, ⟨229, 239, 255, 84⟩, ⟨240, 248, 255, 84⟩, ⟨0, 100, 261, 86⟩, ⟨101, 111, 261, 86⟩, ⟨112, 122, 261, 86⟩, ⟨123, 129, 261, 86⟩, ⟨130, 138, 261, 86⟩, ⟨139, 145, 261, 86⟩, ⟨146, 154, 261, 86⟩, ⟨155, 161, 261, 86⟩, ⟨162, 168, 261, 86⟩, ⟨169, 174, 261, 86⟩, ⟨175, 179, 261, 86⟩, ⟨180, 185, 261, 86⟩, ⟨186, 195, 261, 86⟩, ⟨196, 202, 261, 86⟩, ⟨203, 209, 261, 86⟩, ⟨210, 216, 261, 86⟩, ⟨217, 221, 261, 86⟩, ⟨222, 228, 261, 86⟩, ⟨229, 239, 261, 86⟩, ⟨240, 248, 261, 86⟩, ⟨0, 100, 267, 88⟩, ⟨101, 111, 267, 88⟩, ⟨112, 122, 267, 88⟩] ⟨123, 129, 267, 88⟩ [⟨130, 138, 267, 88⟩, ⟨139, 145, 267, 88⟩, ⟨146, 154, 267, 88⟩, ⟨155, 161, 267, 88⟩, ⟨162, 168, 267, 88⟩, ⟨169, 174, 267, 88⟩, ⟨175, 179, 267, 88⟩, ⟨180, 185, 267, 88⟩, ⟨186, 195, 267, 88⟩, ⟨196, 202, 267, 88⟩, ⟨203, 209, 267, 88⟩, ⟨210, 216, 267, 88⟩, ⟨217, 221, 267, 88⟩, ⟨222, 228, 267, 88⟩, ⟨229, 239, 267, 88⟩, ⟨240, 248, 267, 88⟩] (by rw [hTab]; rfl) (fun z hz => (List.mem_cons.mp hz).elim (fun q => by subst q; exact Or.inl (by decide)) (fun hz => (List.mem_cons.mp hz).elim (fun q => by subst q; exact Or.inl (by decide)) (fun hz => (List.mem_cons.mp hz).elim (fun q => by subst q; exact Or.inl (by decide)) (fun hz => (List.mem_cons.mp hz).elim (fun q => by subst q; exact Or.inr ⟨by decide, _, hxl82, nc_3 hG⟩) (fun hz => (List.mem_cons.mp hz).elim (fun q => by subst q; exact Or.inl (by decide)) (fun hz => (List.mem_cons.mp hz).elim (fun q => by subst q; exact Or.inl (by decide)) (fun hz => (List.mem_cons.mp hz).elim (fun q => by subst q; exact Or.inl (by decide)) (fun hz => (List.mem_cons.mp hz).elim (fun q => by subst q; exact Or.inl (by decide)) (fun hz => (List.mem_cons.mp hz).elim (fun q => by subst q; exact Or.inl (by decide)) (fun hz => (List.mem_cons.mp hz).elim (fun q => by subst q; exact Or.inl (by decide)) (fun hz => (List.mem_cons.mp hz).elim (fun q => by subst q; exact Or.inl (by decide)) (fun hz => (List.mem_cons.mp hz).elim (fun q => by subst q; exact Or.inl (by decide)) (fun hz => (List.mem_cons.mp hz).elim (fun q => by subst q; exact Or.inl (by decide)) (fun hz => (List.mem_cons.mp hz).elim (fun q => by subst q; exact Or.inl (by decide)) (fun hz => (List.mem_cons.mp hz).elim (fun q => by subst q; exact Or.inl (by decide)) (fun hz => (List.mem_cons.mp hz).elim (fun q => by subst q; exact Or.inl (by decide)) (fun hz => (List.mem_cons.mp hz).elim (fun q => by subst q; exact Or.inl (by decide)) (fun hz => (List.mem_cons.mp hz).elim (fun q => by subst q; exact Or.inl (by decide)) (fun hz => (List.mem_cons.mp hz).elim (fun q => by subst q; exact Or.inl (by decide)) (fun hz => (List.mem_cons.mp hz).elim (fun q => by subst q; exact Or.inl (by decide)) (fun hz => (List.mem_cons.mp hz).elim (fun q => by subst q; exact Or.inl (by decide)) (fun hz => (List.mem_cons.mp hz).elim (fun q => by subst q; exact Or.inl (by decide)) (fun hz => (List.mem_cons.mp hz).elim (fun q => by subst q; exact Or.inl (by decide)) (fun hz => (List.mem_cons.mp hz).elim (fun q => by subst q; exact Or.inr ⟨by decide, _, hxl84, nc_4 hG⟩) (fun hz => (List.mem_cons.mp hz).elim (fun q => by subst q; exact Or.inl (by decide)) (fun hz => (List.mem_cons.mp hz).elim (fun q => by subst q; exact Or.inl (by decide)) (fun hz => (List.mem_cons.mp hz).elim (fun q => by subst q; exact Or.inl (by decide)) (fun hz => (List.mem_cons.mp hz).elim (fun q => by subst q; exact Or.inl (by decide)) (fun hz => (List.mem_cons.mp hz).elim (fun q => by subst q; exact Or.inl (by decide)) (fun hz => (List.mem_cons.mp hz).elim (fun q => by subst q; exact Or.inl (by decide)) (fun hz => (List.mem_cons.mp hz).elim (fun q => by subst q; exact Or.inl (by decide)) (fun hz => (List.mem_cons.mp hz).elim (fun q => by subst q; exact Or.inl (by decide)) (fun hz => (List.mem_cons.mp hz).elim (fun q => by subst q; exact Or.inl (by decide)) (fun hz => (List.mem_cons.mp hz).elim (fun q => by subst q; exact Or.inl (by decide)) (fun hz => (List.mem_cons.mp hz).elim (fun q => by subst q; exact Or.inl (by decide)) (fun hz => (List.mem_cons.mp hz).elim (fun q => by subst q; exact Or.inl (by decide)) (fun hz => (List.mem_cons.mp hz).elim (fun q => by subst q; exact Or.inl (by decide)) (fun hz => (List.mem_cons.mp hz).elim (fun q => by subst q; exact Or.inl (by decide)) (fun hz => (List.mem_cons.mp hz).elim (fun q => by subst q; exact Or.inl (by decide)) (fun hz => (List.mem_cons.mp hz).elim (fun q => by subst q; exact Or.inl (by decide)) (fun hz => (List.mem_cons.mp hz).elim (fun q => by subst q; exact Or.inl (by decide)) (fun hz => (List.mem_cons.mp hz).elim (fun q => by subst q; exact Or.inl (by decide)) (fun hz => (List.mem_cons.mp hz).elim (fun q => by subst q; exact Or.inl (by decide)) (fun hz => (List.mem_cons.mp hz).elim (fun q => by subst q; exact Or.inr ⟨by decide, _, hxl86, nc_5 hG⟩) (fun hz => (List.mem_cons.mp hz).elim (fun q => by subst q; exact Or.inl (by decide)) (fun hz => (List.mem_cons.mp hz).elim (fun q => by subst q; exact Or.inl (by decide)) (fun hz => (List.mem_cons.mp hz).elim (fun q => by subst q; exact Or.inl (by decide)) (fun hz => (List.mem_cons.mp hz).elim (fun q => by subst q; exact Or.inl (by decide)) (fun hz => (List.mem_cons.mp hz).elim (fun q => by subst q; exact Or.inl (by decide)) (fun hz => (List.mem_cons.mp hz).elim (fun q => by subst q; exact Or.inl (by decide)) (fun hz => (List.mem_cons.mp hz).elim (fun q => by subst q; exact Or.inl (by decide)) (fun hz => (List.mem_cons.mp hz).elim (fun q => by subst q; exact Or.inl (by decide)) (fun hz => (List.mem_cons.mp hz).elim (fun q => by subst q; exact Or.inl (by decide)) (fun hz => (List.mem_cons.mp hz).elim (fun q => by subst q; exact Or.inl (by decide)) (fun hz => (List.mem_cons.mp hz).elim (fun q => by subst q; exact Or.inl (by decide)) (fun hz => (List.mem_cons.mp hz).elim (fun q => by subst q; exact Or.inl (by decide)) (fun hz => (List.mem_cons.mp hz).elim (fun q => by subst q; exact Or.inl (by decide)) (fun hz => (List.mem_cons.mp hz).elim (fun q => by subst q; exact Or.inl (by decide)) (fun hz => (List.mem_cons.mp hz).elim (fun q => by subst q; exact Or.inl (by decide)) (fun hz => (List.mem_cons.mp hz).elim (fun q => by subst q; exact Or.inl (by decide)) (fun hz => (List.mem_cons.mp hz).elim (fun q => by subst q; exact Or.inl (by decide)) (fun hz => (List.mem_cons.mp hz).elim (fun q => by subst q; exact Or.inl (by decide)) (fun hz => (List.mem_cons.mp hz).elim (fun q => by subst q; exact Or.inl (by decide)) (fun hz => absurd hz List.not_mem_nil)))))))))))))))))))))))))))))))))))))))))))))))))))))))))))))))) (by decide) (by decide) hxl88 (xc_2 hG) hce hcv hcl ?_
      have hS := hS9
      have ht_1 := ht
      refine lv_astore (lv' := [(5, .ref q9), (0, .ref t_p_), (1, .int 3), (2, .int a_), (3, .int b_), (4, .int c_)]) hx hb dL_asks_267 hl (by decide) rfl (fun ls hl => ?_)
      refine lv_sipush (v := (-20004)) hx hb dL_asks_269 (by decide) ?_
      refine W.widen (k := 2) (n := 12) (by omega) (by omega) ?_
      exact W.iret (v := (-20004)) hx hb hr (fun t ht hW => ⟨⟨(-20004), (ad_2, o_3, ()), rfl, ⟨hw, had_2⟩, ⟨P_at ht hP, hD⟩⟩, hS.F ht⟩) hS.2.2 dL_asks_272
  obtain ⟨ad_4, o_5⟩ := u_1
  obtain ⟨hw, had_4⟩ := hw_1
  rw [ht_1] at hB_1
  obtain ⟨hP1, hD1⟩ := hB_1
  obtain ⟨hP, hD⟩ := join_r hPs hDs hk_1 hFc hP1 hD1
  obtain ⟨hP, hD⟩ := seg_join [] [offS ad_4 tp_p_ hd_p_ tf_p_ cf_p_ g o_5] [offS ad_4 tp_p_ hd_p_ tf_p_ cf_p_ g o_5] 1 [0] rfl rfl (by decide) hP hD
  have hP : va_P (dC, dI) vwCl (offS ad_4 tp_p_ hd_p_ tf_p_ cf_p_ g o_5) H_1 := hP
  have hD : va_D A (offS ad_4 tp_p_ hd_p_ tf_p_ cf_p_ g o_5) := hD
  refine W.widen (k := 2) (n := 12) (by omega) (by omega) ?_
  refine W.widen (k := 2) (n := 12) (by omega) (by omega) ?_
  exact W.iret (v := r_1) hx hb hr (fun t ht hW => ⟨⟨r_1, (ad_4, o_5, ()), rfl, ⟨hw, had_4⟩, ⟨P_at ht hP, hD⟩⟩, hS.F ht⟩) hS.2.2 dL_asks_129
theorem dL_asks_130 : decode cL_asks 130 = .ok (.aload_n 0, 1) := by decide +kernel
theorem dL_asks_131 : decode cL_asks 131 = .ok (.iload_n 2, 1) := by decide +kernel
theorem dL_asks_132 : decode cL_asks 132 = .ok (.iload_n 3, 1) := by decide +kernel
theorem dL_asks_133 : decode cL_asks 133 = .ok (.iload 4, 2) := by decide +kernel
theorem dL_asks_135 : decode cL_asks 135 = .ok (.invokevirtual 34, 3) := by decide +kernel
theorem dL_asks_138 : decode cL_asks 138 = .ok (.ireturn, 1) := by decide +kernel

set_option maxHeartbeats 8000000 in
set_option maxRecDepth 100000 in
theorem c_L_asks_4 (l : Launch) (hlf : l.stackTraces = false) (dC : Nat → ClassId) (dI : Nat → Nat → Nat) (g : Nat → ClassId) (tp_p_ hd_p_ : Nat → Nat) (tf_p_ cf_p_ : Nat → Option Nat) (htf_p_ : ∀ j, j < 8 → tf_p_ j = some (tp_p_ j)) (hcf_p_ : ∀ j, j < 8 → cf_p_ j = some (tp_p_ (8 + j))) (a_p_ : Nat → Nat) (t_p_ : Nat) (h_p_ : a_p_ 0 = t_p_) (o_p_ : OS) (a_ : Int32) (b_ : Int32) (c_ : Int32) (Q : Int32 → OS → Prop) (hw : wp_L_asks_4 o_p_ a_ b_ c_ Q) (sz : Nat) : Met l yL_asks wqL_asks ({ frames := 8, cells := 3, slots := 18, locals := 129 }) (va_Pc [.ref t_p_, .int 4, .int a_, .int b_, .int c_] (PG (dC, dI) g (offS a_p_ tp_p_ hd_p_ tf_p_ cf_p_ g o_p_) sz)) (va_Qi (fun (r : Int32) (u : (Nat → Nat) × OS × Unit) => Q r u.2.1 ∧ u.1 0 = t_p_) (fun (u : (Nat → Nat) × OS × Unit) t9 => va_P (dC, dI) vwCl (offS u.1 tp_p_ hd_p_ tf_p_ cf_p_ g u.2.1) t9.heap ∧ va_D (va_A (offS a_p_ tp_p_ hd_p_ tf_p_ cf_p_ g o_p_) sz) (offS u.1 tp_p_ hd_p_ tf_p_ cf_p_ g u.2.1)) (va_A (offS a_p_ tp_p_ hd_p_ tf_p_ cf_p_ g o_p_) sz)) 3 18 (va_A (offS a_p_ tp_p_ hd_p_ tf_p_ cf_p_ g o_p_) sz) := by
  refine mt_ofWH (cc := cL_asks) (maxL := 6) (ret := (some .int)) (hh := [(0, 100, 249, 82), (101, 111, 249, 82), (112, 122, 249, 82), (123, 129, 249, 82), (130, 138, 249, 82), (139, 145, 249, 82), (146, 154, 249, 82), (155, 161, 249, 82), (162, 168, 249, 82), (169, 174, 249, 82), (175, 179, 249, 82), (180, 185, 249, 82), (186, 195, 249, 82), (196, 202, 249, 82), (203, 209, 249, 82), (210, 216, 249, 82), (217, 221, 249, 82), (222, 228, 249, 82), (229, 239, 249, 82), (240, 248, 249, 82), (0, 100, 255, 84), (101, 111, 255, 84), (112, 122, 255, 84), (123, 129, 255, 84), (130, 138, 255, 84), (139, 145, 255, 84), (146, 154, 255, 84), (155, 161, 255, 84), (162, 168, 255, 84), (169, 174, 255, 84), (175, 179, 255, 84), (180, 185, 255, 84), (186, 195, 255, 84), (196, 202, 255, 84), (203, 209, 255, 84), (210, 216, 255, 84), (217, 221, 255, 84), (222, 228, 255, 84), (229, 239, 255, 84), (240, 248, 255, 84), (0, 100, 261, 86), (101, 111, 261, 86), (112, 122, 261, 86), (123, 129, 261, 86), (130, 138, 261, 86), (139, 145, 261, 86), (146, 154, 261, 86), (155, 161, 261, 86), (162, 168, 261, 86), (169, 174, 261, 86), (175, 179, 261, 86), (180, 185, 261, 86), (186, 195, 261, 86), (196, 202, 261, 86), (203, 209, 261, 86), (210, 216, 261, 86), (217, 221, 261, 86), (222, 228, 261, 86), (229, 239, 261, 86), (240, 248, 261, 86), (0, 100, 267, 88), (101, 111, 267, 88), (112, 122, 267, 88), (123, 129, 267, 88), (130, 138, 267, 88), (139, 145, 267, 88), (146, 154, 267, 88), (155, 161, 267, 88), (162, 168, 267, 88), (169, 174, 267, 88), (175, 179, 267, 88), (180, 185, 267, 88), (186, 195, 267, 88), (196, 202, 267, 88), (203, 209, 267, 88), (210, 216, 267, 88), (217, 221, 267, 88), (222, 228, 267, 88), (229, 239, 267, 88), (240, 248, 267, 88)]) (by decide) rfl ?_
  intro p e s m args below meth c s₁ B hml hv
  obtain ⟨rfl, hsz, hP, hK, hD0, hG⟩ := hv
  have hx := B.exec
  have hb := B.bytes
  have hr := B.returns
  have hts := atoms_spec (ws := wqL_asks) B.pre
  have hown : s.vm.findClass RL = some m.cls := findClass_of_methodNamed B.named
  have hlocks := B.notSynchronized
  subst hsz
  have hD := hD0.self (sz := s.heap.size)
  generalize hAe : va_A (offS a_p_ tp_p_ hd_p_ tf_p_ cf_p_ g o_p_) s.heap.size = A at hD hG ⊢
  have hA : ∀ q : Nat, s.heap.size ≤ q → A q := fun q h => by rw [← hAe]; exact Or.inr h
  have hS : va_S A s.heap s.heap [] := va_S.rf
  have hrc : (headSpec wqL_asks ({ frames := 8, cells := 3, slots := 18, locals := 129 })).room.cells = 3 := rfl
  have hrs : (headSpec wqL_asks ({ frames := 8, cells := 3, slots := 18, locals := 129 })).room.slots = 18 := rfl
  have hTab := vx_table (x := yL_asks) B (hts (Cond.codeWith yL_asks cL_asks 6 (some .int) [(0, 100, 249, 82), (101, 111, 249, 82), (112, 122, 249, 82), (123, 129, 249, 82), (130, 138, 249, 82), (139, 145, 249, 82), (146, 154, 249, 82), (155, 161, 249, 82), (162, 168, 249, 82), (169, 174, 249, 82), (175, 179, 249, 82), (180, 185, 249, 82), (186, 195, 249, 82), (196, 202, 249, 82), (203, 209, 249, 82), (210, 216, 249, 82), (217, 221, 249, 82), (222, 228, 249, 82), (229, 239, 249, 82), (240, 248, 249, 82), (0, 100, 255, 84), (101, 111, 255, 84), (112, 122, 255, 84), (123, 129, 255, 84), (130, 138, 255, 84), (139, 145, 255, 84), (146, 154, 255, 84), (155, 161, 255, 84), (162, 168, 255, 84), (169, 174, 255, 84), (175, 179, 255, 84), (180, 185, 255, 84), (186, 195, 255, 84), (196, 202, 255, 84), (203, 209, 255, 84), (210, 216, 255, 84), (217, 221, 255, 84), (222, 228, 255, 84), (229, 239, 255, 84), (240, 248, 255, 84), (0, 100, 261, 86), (101, 111, 261, 86), (112, 122, 261, 86), (123, 129, 261, 86), (130, 138, 261, 86), (139, 145, 261, 86), (146, 154, 261, 86), (155, 161, 261, 86), (162, 168, 261, 86), (169, 174, 261, 86), (175, 179, 261, 86), (180, 185, 261, 86), (186, 195, 261, 86), (196, 202, 261, 86), (203, 209, 261, 86), (210, 216, 261, 86), (217, 221, 261, 86), (222, 228, 261, 86), (229, 239, 261, 86), (240, 248, 261, 86), (0, 100, 267, 88), (101, 111, 267, 88), (112, 122, 267, 88), (123, 129, 267, 88), (130, 138, 267, 88), (139, 145, 267, 88), (146, 154, 267, 88), (155, 161, 267, 88), (162, 168, 267, 88), (169, 174, 267, 88), (175, 179, 267, 88), (180, 185, 267, 88), (186, 195, 267, 88), (196, 202, 267, 88), (203, 209, 267, 88), (210, 216, 267, 88), (217, 221, 267, 88), (222, 228, 267, 88), (229, 239, 267, 88), (240, 248, 267, 88)]) (List.mem_cons_self))
  have hl := lv_entry ([.ref t_p_, .int 4, .int a_, .int b_, .int c_]) (n := 6) (Nat.le_of_ble_eq_true rfl)
  rw [lg_entry_eq]
  generalize (lg_sl ([.ref t_p_, .int 4, .int a_, .int b_, .int c_]) ++ List.replicate (6 - (lg_sl ([.ref t_p_, .int 4, .int a_, .int b_, .int c_])).length) Slot.unset).toArray = ls at hl ⊢
  have hl : lv_has ls 6 [(0, .ref t_p_), (1, .int 4), (2, .int a_), (3, .int b_), (4, .int c_)] := hl
  unfold wp_L_asks_4 at hw
  have hxl82 := hts (Cond.classLink RL 82 "java/lang/IndexOutOfBoundsException") (aw_l aw_4_48)
  have hxl84 := hts (Cond.classLink RL 84 "java/util/NoSuchElementException") (aw_l aw_4_49)
  have hxl86 := hts (Cond.classLink RL 86 "java/lang/IllegalArgumentException") (aw_l aw_4_50)
  have hxl88 := hts (Cond.classLink RL 88 "java/lang/IllegalStateException") (aw_l aw_4_51)
  refine lv_iload_n hx hb dL_asks_0 rfl (lv_at hl 1 rfl) ?_
  refine lv_tableIn (tgt := 130) hx hb dL_asks_1 (by decide) (by decide) rfl (by decide) ?_
  refine lv_aload_n hx hb dL_asks_130 rfl (lv_at hl 0 rfl) ?_
  refine lv_iload_n hx hb dL_asks_131 rfl (lv_at hl 2 rfl) ?_
  refine lv_iload_n hx hb dL_asks_132 rfl (lv_at hl 3 rfl) ?_
  refine lv_iload hx hb dL_asks_133 (lv_at hl 4 rfl) ?_
  obtain ⟨hPs, hDs⟩ := seg_call (segs := [offS a_p_ tp_p_ hd_p_ tf_p_ cf_p_ g o_p_]) [] [offS a_p_ tp_p_ hd_p_ tf_p_ cf_p_ g o_p_] 1 [0] rfl rfl (by decide) hP hD
  have hPc : va_P (dC, dI) vwCl (offS a_p_ tp_p_ hd_p_ tf_p_ cf_p_ g o_p_) s.heap := P_r hPs
  have hDc : va_D A (offS a_p_ tp_p_ hd_p_ tf_p_ cf_p_ g o_p_) := D_r hDs
  have hFc : ∀ q, va_A (offS a_p_ tp_p_ hd_p_ tf_p_ cf_p_ g o_p_) s.heap.size q → A q := A_all hDc hA hS.1
  refine vx_calli (vx_runV (As := [.int a_, .int b_, .int c_]) (rest := []) ⟨hx, hb, hml, hown, hts⟩ (p_setRuns l hlf dC dI g tp_p_ hd_p_ tf_p_ cf_p_ htf_p_ hcf_p_ a_p_ t_p_ h_p_ o_p_ a_ b_ c_ (hw := hw) (sz := s.heap.size)) (cwV 3 hts (gqV aw_3_154 aw_3_155 aw_3_156 aw_1_1 aw_3_157) rfl rfl rfl (by decide +kernel) ⟨Nat.le_of_ble_eq_true rfl, Nat.le_of_ble_eq_true rfl⟩) ⟨PG_blind, off_recv h_p_ hK hPc, PG_call hK hG hS hPc hDc hFc⟩ rfl rfl hl.1 rfl (lv_room (Nat.le_of_ble_eq_true rfl)) dL_asks_135 ⟨by rw [hrc]; omega, by rw [hrs]; omega⟩) hS (fun q _ h => hFc q h) hFc (fun q _ h => hFc q h) (fun E ce q9 ux t H1 locs1 ht hvm hp9 hB9 hz hk hS9 hce hcv hcl => ?_) (fun r_1 u_1 t_1 H_1 L_1 ht_1 hvm_1 hw_1 hB_1 hz_1 hk_1 hS => ?_)
  · obtain ⟨ad_2, o_3⟩ := ux
    obtain ⟨⟨hw9, had_2⟩, hB9⟩ := hB9
    rw [ht] at hB9
    obtain ⟨hP1, hD1⟩ := hB9
    obtain ⟨hP, hD⟩ := join_r hPs hDs hk hFc hP1 hD1
    obtain ⟨hP, hD⟩ := seg_join [] [offS ad_2 tp_p_ hd_p_ tf_p_ cf_p_ g o_3] [offS ad_2 tp_p_ hd_p_ tf_p_ cf_p_ g o_3] 1 [0] rfl rfl (by decide) hP hD
    have hP : va_P (dC, dI) vwCl (offS ad_2 tp_p_ hd_p_ tf_p_ cf_p_ g o_3) H1 := hP
    have hD : va_D A (offS ad_2 tp_p_ hd_p_ tf_p_ cf_p_ g o_3) := hD
    rcases hw9 with ⟨rfl, hw⟩ | ⟨rfl, hw⟩ | ⟨rfl, hw⟩ | ⟨rfl, hw⟩
    · refine vx_catch (own := RL) (name := "java/lang/IndexOutOfBoundsException") (E := "java/lang/IndexOutOfBoundsException") hown [⟨0, 100, 249, 82⟩, ⟨101, 111, 249, 82⟩, ⟨112, 122, 249, 82⟩, ⟨123, 129, 249, 82⟩] ⟨130, 138, 249, 82⟩ [⟨139, 145, 249, 82⟩, ⟨146, 154, 249, 82⟩, ⟨155, 161, 249, 82⟩, ⟨162, 168, 249, 82⟩, ⟨169, 174, 249, 82⟩, ⟨175, 179, 249, 82⟩, ⟨180, 185, 249, 82⟩, ⟨186, 195, 249, 82⟩, ⟨196, 202, 249, 82⟩, ⟨203, 209, 249, 82⟩, ⟨210, 216, 249, 82⟩, ⟨217, 221, 249, 82⟩, ⟨222, 228, 249, 82⟩, ⟨229, 239, 249, 82⟩, ⟨240, 248, 249, 82⟩, ⟨0, 100, 255, 84⟩, ⟨101, 111, 255, 84⟩, ⟨112, 122, 255, 84⟩, ⟨123, 129, 255, 84⟩, ⟨130, 138, 255, 84⟩, ⟨139, 145, 255, 84⟩, ⟨146, 154, 255, 84⟩, ⟨155, 161, 255, 84⟩, ⟨162, 168, 255, 84⟩, ⟨169, 174, 255, 84⟩, ⟨175, 179, 255, 84⟩, ⟨180, 185, 255, 84⟩, ⟨186, 195, 255, 84⟩, ⟨196, 202, 255, 84⟩, ⟨203, 209, 255, 84⟩, ⟨210, 216, 255, 84⟩, ⟨217, 221, 255, 84⟩, ⟨222, 228, 255, 84⟩, ⟨229, 239, 255, 84⟩, ⟨240, 248, 255, 84⟩, ⟨0, 100, 261, 86⟩, ⟨101, 111, 261, 86⟩, ⟨112, 122, 261, 86⟩, ⟨123, 129, 261, 86⟩, ⟨130, 138, 261, 86⟩, ⟨139, 145, 261, 86⟩, ⟨146, 154, 261, 86⟩, ⟨155, 161, 261, 86⟩, ⟨162, 168, 261, 86⟩, ⟨169, 174, 261, 86⟩, ⟨175, 179, 261, 86⟩, ⟨180, 185, 261, 86⟩, ⟨186, 195, 261, 86⟩, ⟨196, 202, 261, 86⟩, ⟨203, 209, 261, 86⟩, ⟨210, 216, 261, 86⟩, ⟨217, 221, 261, 86⟩, ⟨222, 228, 261, 86⟩, ⟨229, 239, 261, 86⟩, ⟨240, 248, 261, 86⟩, ⟨0, 100, 267, 88⟩, ⟨101, 111, 267, 88⟩, ⟨112, 122, 267, 88⟩, ⟨123, 129, 267, 88⟩, ⟨130, 138, 267, 88⟩, ⟨139, 145, 267, 88⟩, ⟨146, 154, 267, 88⟩, ⟨155, 161, 267, 88⟩, ⟨162, 168, 267, 88⟩, ⟨169, 174, 267, 88⟩, ⟨175, 179, 267, 88⟩, ⟨180, 185, 267, 88⟩, ⟨186, 195, 267, 88⟩, ⟨196, 202, 267, 88⟩, ⟨203, 209, 267, 88⟩, ⟨210, 216, 267, 88⟩, ⟨217, 221, 267, 88⟩, ⟨222, 228, 267, 88⟩, ⟨229, 239, 267, 88⟩, ⟨240, 248, 267, 88⟩] (by rw [hTab]; rfl) (fun z hz => (List.mem_cons.mp hz).elim (fun q => by subst q; exact Or.inl (by decide)) (fun hz => (List.mem_cons.mp hz).elim (fun q => by subst q; exact Or.inl (by decide)) (fun hz => (List.mem_cons.mp hz).elim (fun q => by subst q; exact Or.inl (by decide)) (fun hz => (List.mem_cons.mp hz).elim (fun q => by subst q; exact Or.inl (by decide)) (fun hz => absurd hz List.not_mem_nil))))) (by decide) (by decide) hxl82 (xc_0 hG) hce hcv hcl ?_
      have hS := hS9
      have ht_1 := ht
      refine lv_astore (lv' := [(5, .ref q9), (0, .ref t_p_), (1, .int 4), (2, .int a_), (3, .int b_), (4, .int c_)]) hx hb dL_asks_249 hl (by decide) rfl (fun ls hl => ?_)
      refine lv_sipush (v := (-20001)) hx hb dL_asks_251 (by decide) ?_
      refine W.widen (k := 3) (n := 18) (by omega) (by omega) ?_
      exact W.iret (v := (-20001)) hx hb hr (fun t ht hW => ⟨⟨(-20001), (ad_2, o_3, ()), rfl, ⟨hw, had_2⟩, ⟨P_at ht hP, hD⟩⟩, hS.F ht⟩) hS.2.2 dL_asks_254
    · refine vx_catch (own := RL) (name := "java/util/NoSuchElementException") (E := "java/util/NoSuchElementException") hown [⟨0, 100, 249, 82⟩, ⟨101, 111, 249, 82⟩, ⟨112, 122, 249, 82⟩, ⟨123, 129, 249, 82⟩, ⟨130, 138, 249, 82⟩, ⟨139, 145, 249, 82⟩, ⟨146, 154, 249, 82⟩, ⟨155, 161, 249, 82⟩, ⟨162, 168, 249, 82⟩, ⟨169, 174, 249, 82⟩, ⟨175, 179, 249, 82⟩, ⟨180, 185, 249, 82⟩, ⟨186, 195, 249, 82⟩, ⟨196, 202, 249, 82⟩, ⟨203, 209, 249, 82⟩, ⟨210, 216, 249, 82⟩, ⟨217, 221, 249, 82⟩, ⟨222, 228, 249, 82⟩, ⟨229, 239, 249, 82⟩, ⟨240, 248, 249, 82⟩, ⟨0, 100, 255, 84⟩, ⟨101, 111, 255, 84⟩, ⟨112, 122, 255, 84⟩, ⟨123, 129, 255, 84⟩] ⟨130, 138, 255, 84⟩ [⟨139, 145, 255, 84⟩, ⟨146, 154, 255, 84⟩, ⟨155, 161, 255, 84⟩, ⟨162, 168, 255, 84⟩, ⟨169, 174, 255, 84⟩, ⟨175, 179, 255, 84⟩, ⟨180, 185, 255, 84⟩, ⟨186, 195, 255, 84⟩, ⟨196, 202, 255, 84⟩, ⟨203, 209, 255, 84⟩, ⟨210, 216, 255, 84⟩, ⟨217, 221, 255, 84⟩, ⟨222, 228, 255, 84⟩, ⟨229, 239, 255, 84⟩, ⟨240, 248, 255, 84⟩, ⟨0, 100, 261, 86⟩, ⟨101, 111, 261, 86⟩, ⟨112, 122, 261, 86⟩, ⟨123, 129, 261, 86⟩, ⟨130, 138, 261, 86⟩, ⟨139, 145, 261, 86⟩, ⟨146, 154, 261, 86⟩, ⟨155, 161, 261, 86⟩, ⟨162, 168, 261, 86⟩, ⟨169, 174, 261, 86⟩, ⟨175, 179, 261, 86⟩, ⟨180, 185, 261, 86⟩, ⟨186, 195, 261, 86⟩, ⟨196, 202, 261, 86⟩, ⟨203, 209, 261, 86⟩, ⟨210, 216, 261, 86⟩, ⟨217, 221, 261, 86⟩, ⟨222, 228, 261, 86⟩, ⟨229, 239, 261, 86⟩, ⟨240, 248, 261, 86⟩, ⟨0, 100, 267, 88⟩, ⟨101, 111, 267, 88⟩, ⟨112, 122, 267, 88⟩, ⟨123, 129, 267, 88⟩, ⟨130, 138, 267, 88⟩, ⟨139, 145, 267, 88⟩, ⟨146, 154, 267, 88⟩, ⟨155, 161, 267, 88⟩, ⟨162, 168, 267, 88⟩, ⟨169, 174, 267, 88⟩, ⟨175, 179, 267, 88⟩, ⟨180, 185, 267, 88⟩, ⟨186, 195, 267, 88⟩, ⟨196, 202, 267, 88⟩, ⟨203, 209, 267, 88⟩, ⟨210, 216, 267, 88⟩, ⟨217, 221, 267, 88⟩, ⟨222, 228, 267, 88⟩, ⟨229, 239, 267, 88⟩, ⟨240, 248, 267, 88⟩] (by rw [hTab]; rfl) (fun z hz => (List.mem_cons.mp hz).elim (fun q => by subst q; exact Or.inl (by decide)) (fun hz => (List.mem_cons.mp hz).elim (fun q => by subst q; exact Or.inl (by decide)) (fun hz => (List.mem_cons.mp hz).elim (fun q => by subst q; exact Or.inl (by decide)) (fun hz => (List.mem_cons.mp hz).elim (fun q => by subst q; exact Or.inl (by decide)) (fun hz => (List.mem_cons.mp hz).elim (fun q => by subst q; exact Or.inr ⟨by decide, _, hxl82, nc_0 hG⟩) (fun hz => (List.mem_cons.mp hz).elim (fun q => by subst q; exact Or.inl (by decide)) (fun hz => (List.mem_cons.mp hz).elim (fun q => by subst q; exact Or.inl (by decide)) (fun hz => (List.mem_cons.mp hz).elim (fun q => by subst q; exact Or.inl (by decide)) (fun hz => (List.mem_cons.mp hz).elim (fun q => by subst q; exact Or.inl (by decide)) (fun hz => (List.mem_cons.mp hz).elim (fun q => by subst q; exact Or.inl (by decide)) (fun hz => (List.mem_cons.mp hz).elim (fun q => by subst q; exact Or.inl (by decide)) (fun hz => (List.mem_cons.mp hz).elim (fun q => by subst q; exact Or.inl (by decide)) (fun hz => (List.mem_cons.mp hz).elim (fun q => by subst q; exact Or.inl (by decide)) (fun hz => (List.mem_cons.mp hz).elim (fun q => by subst q; exact Or.inl (by decide)) (fun hz => (List.mem_cons.mp hz).elim (fun q => by subst q; exact Or.inl (by decide)) (fun hz => (List.mem_cons.mp hz).elim (fun q => by subst q; exact Or.inl (by decide)) (fun hz => (List.mem_cons.mp hz).elim (fun q => by subst q; exact Or.inl (by decide)) (fun hz => (List.mem_cons.mp hz).elim (fun q => by subst q; exact Or.inl (by decide)) (fun hz => (List.mem_cons.mp hz).elim (fun q => by subst q; exact Or.inl (by decide)) (fun hz => (List.mem_cons.mp hz).elim (fun q => by subst q; exact Or.inl (by decide)) (fun hz => (List.mem_cons.mp hz).elim (fun q => by subst q; exact Or.inl (by decide)) (fun hz => (List.mem_cons.mp hz).elim (fun q => by subst q; exact Or.inl (by decide)) (fun hz => (List.mem_cons.mp hz).elim (fun q => by subst q; exact Or.inl (by decide)) (fun hz => (List.mem_cons.mp hz).elim (fun q => by subst q; exact Or.inl (by decide)) (fun hz => absurd hz List.not_mem_nil))))))))))))))))))))))))) (by decide) (by decide) hxl84 (xc_3 hG) hce hcv hcl ?_
      have hS := hS9
      have ht_1 := ht
      refine lv_astore (lv' := [(5, .ref q9), (0, .ref t_p_), (1, .int 4), (2, .int a_), (3, .int b_), (4, .int c_)]) hx hb dL_asks_255 hl (by decide) rfl (fun ls hl => ?_)
      refine lv_sipush (v := (-20002)) hx hb dL_asks_257 (by decide) ?_
      refine W.widen (k := 3) (n := 18) (by omega) (by omega) ?_
      exact W.iret (v := (-20002)) hx hb hr (fun t ht hW => ⟨⟨(-20002), (ad_2, o_3, ()), rfl, ⟨hw, had_2⟩, ⟨P_at ht hP, hD⟩⟩, hS.F ht⟩) hS.2.2 dL_asks_260
    · refine vx_catch (own := RL) (name := "java/lang/IllegalArgumentException") (E := "java/lang/IllegalArgumentException") hown [⟨0, 100, 249, 82⟩, ⟨101, 111, 249, 82⟩, ⟨112, 122, 249, 82⟩, ⟨123, 129, 249, 82⟩, ⟨130, 138, 249, 82⟩, ⟨139, 145, 249, 82⟩, ⟨146, 154, 249, 82⟩, ⟨155, 161, 249, 82⟩, ⟨162, 168, 249, 82⟩, ⟨169, 174, 249, 82⟩, ⟨175, 179, 249, 82⟩, ⟨180, 185, 249, 82⟩, ⟨186, 195, 249, 82⟩, ⟨196, 202, 249, 82⟩, ⟨203, 209, 249, 82⟩, ⟨210, 216, 249, 82⟩, ⟨217, 221, 249, 82⟩, ⟨222, 228, 249, 82⟩, ⟨229, 239, 249, 82⟩, ⟨240, 248, 249, 82⟩, ⟨0, 100, 255, 84⟩, ⟨101, 111, 255, 84⟩, ⟨112, 122, 255, 84⟩, ⟨123, 129, 255, 84⟩, ⟨130, 138, 255, 84⟩, ⟨139, 145, 255, 84⟩, ⟨146, 154, 255, 84⟩, ⟨155, 161, 255, 84⟩, ⟨162, 168, 255, 84⟩, ⟨169, 174, 255, 84⟩, ⟨175, 179, 255, 84⟩, ⟨180, 185, 255, 84⟩, ⟨186, 195, 255, 84⟩, ⟨196, 202, 255, 84⟩, ⟨203, 209, 255, 84⟩, ⟨210, 216, 255, 84⟩, ⟨217, 221, 255, 84⟩, ⟨222, 228, 255, 84⟩, ⟨229, 239, 255, 84⟩, ⟨240, 248, 255, 84⟩, ⟨0, 100, 261, 86⟩, ⟨101, 111, 261, 86⟩, ⟨112, 122, 261, 86⟩, ⟨123, 129, 261, 86⟩] ⟨130, 138, 261, 86⟩ [⟨139, 145, 261, 86⟩, ⟨146, 154, 261, 86⟩, ⟨155, 161, 261, 86⟩, ⟨162, 168, 261, 86⟩, ⟨169, 174, 261, 86⟩, ⟨175, 179, 261, 86⟩, ⟨180, 185, 261, 86⟩, ⟨186, 195, 261, 86⟩, ⟨196, 202, 261, 86⟩, ⟨203, 209, 261, 86⟩, ⟨210, 216, 261, 86⟩, ⟨217, 221, 261, 86⟩, ⟨222, 228, 261, 86⟩, ⟨229, 239, 261, 86⟩, ⟨240, 248, 261, 86⟩, ⟨0, 100, 267, 88⟩, ⟨101, 111, 267, 88⟩, ⟨112, 122, 267, 88⟩, ⟨123, 129, 267, 88⟩, ⟨130, 138, 267, 88⟩, ⟨139, 145, 267, 88⟩, ⟨146, 154, 267, 88⟩, ⟨155, 161, 267, 88⟩, ⟨162, 168, 267, 88⟩, ⟨169, 174, 267, 88⟩, ⟨175, 179, 267, 88⟩, ⟨180, 185, 267, 88⟩, ⟨186, 195, 267, 88⟩, ⟨196, 202, 267, 88⟩, ⟨203, 209, 267, 88⟩, ⟨210, 216, 267, 88⟩, ⟨217, 221, 267, 88⟩, ⟨222, 228, 267, 88⟩, ⟨229, 239, 267, 88⟩, ⟨240, 248, 267, 88⟩] (by rw [hTab]; rfl) (fun z hz => (List.mem_cons.mp hz).elim (fun q => by subst q; exact Or.inl (by decide)) (fun hz => (List.mem_cons.mp hz).elim (fun q => by subst q; exact Or.inl (by decide)) (fun hz => (List.mem_cons.mp hz).elim (fun q => by subst q; exact Or.inl (by decide)) (fun hz => (List.mem_cons.mp hz).elim (fun q => by subst q; exact Or.inl (by decide)) (fun hz => (List.mem_cons.mp hz).elim (fun q => by subst q; exact Or.inr ⟨by decide, _, hxl82, nc_1 hG⟩) (fun hz => (List.mem_cons.mp hz).elim (fun q => by subst q; exact Or.inl (by decide)) (fun hz => (List.mem_cons.mp hz).elim (fun q => by subst q; exact Or.inl (by decide)) (fun hz => (List.mem_cons.mp hz).elim (fun q => by subst q; exact Or.inl (by decide)) (fun hz => (List.mem_cons.mp hz).elim (fun q => by subst q; exact Or.inl (by decide)) (fun hz => (List.mem_cons.mp hz).elim (fun q => by subst q; exact Or.inl (by decide)) (fun hz => (List.mem_cons.mp hz).elim (fun q => by subst q; exact Or.inl (by decide)) (fun hz => (List.mem_cons.mp hz).elim (fun q => by subst q; exact Or.inl (by decide)) (fun hz => (List.mem_cons.mp hz).elim (fun q => by subst q; exact Or.inl (by decide)) (fun hz => (List.mem_cons.mp hz).elim (fun q => by subst q; exact Or.inl (by decide)) (fun hz => (List.mem_cons.mp hz).elim (fun q => by subst q; exact Or.inl (by decide)) (fun hz => (List.mem_cons.mp hz).elim (fun q => by subst q; exact Or.inl (by decide)) (fun hz => (List.mem_cons.mp hz).elim (fun q => by subst q; exact Or.inl (by decide)) (fun hz => (List.mem_cons.mp hz).elim (fun q => by subst q; exact Or.inl (by decide)) (fun hz => (List.mem_cons.mp hz).elim (fun q => by subst q; exact Or.inl (by decide)) (fun hz => (List.mem_cons.mp hz).elim (fun q => by subst q; exact Or.inl (by decide)) (fun hz => (List.mem_cons.mp hz).elim (fun q => by subst q; exact Or.inl (by decide)) (fun hz => (List.mem_cons.mp hz).elim (fun q => by subst q; exact Or.inl (by decide)) (fun hz => (List.mem_cons.mp hz).elim (fun q => by subst q; exact Or.inl (by decide)) (fun hz => (List.mem_cons.mp hz).elim (fun q => by subst q; exact Or.inl (by decide)) (fun hz => (List.mem_cons.mp hz).elim (fun q => by subst q; exact Or.inr ⟨by decide, _, hxl84, nc_2 hG⟩) (fun hz => (List.mem_cons.mp hz).elim (fun q => by subst q; exact Or.inl (by decide)) (fun hz => (List.mem_cons.mp hz).elim (fun q => by subst q; exact Or.inl (by decide)) (fun hz => (List.mem_cons.mp hz).elim (fun q => by subst q; exact Or.inl (by decide)) (fun hz => (List.mem_cons.mp hz).elim (fun q => by subst q; exact Or.inl (by decide)) (fun hz => (List.mem_cons.mp hz).elim (fun q => by subst q; exact Or.inl (by decide)) (fun hz => (List.mem_cons.mp hz).elim (fun q => by subst q; exact Or.inl (by decide)) (fun hz => (List.mem_cons.mp hz).elim (fun q => by subst q; exact Or.inl (by decide)) (fun hz => (List.mem_cons.mp hz).elim (fun q => by subst q; exact Or.inl (by decide)) (fun hz => (List.mem_cons.mp hz).elim (fun q => by subst q; exact Or.inl (by decide)) (fun hz => (List.mem_cons.mp hz).elim (fun q => by subst q; exact Or.inl (by decide)) (fun hz => (List.mem_cons.mp hz).elim (fun q => by subst q; exact Or.inl (by decide)) (fun hz => (List.mem_cons.mp hz).elim (fun q => by subst q; exact Or.inl (by decide)) (fun hz => (List.mem_cons.mp hz).elim (fun q => by subst q; exact Or.inl (by decide)) (fun hz => (List.mem_cons.mp hz).elim (fun q => by subst q; exact Or.inl (by decide)) (fun hz => (List.mem_cons.mp hz).elim (fun q => by subst q; exact Or.inl (by decide)) (fun hz => (List.mem_cons.mp hz).elim (fun q => by subst q; exact Or.inl (by decide)) (fun hz => (List.mem_cons.mp hz).elim (fun q => by subst q; exact Or.inl (by decide)) (fun hz => (List.mem_cons.mp hz).elim (fun q => by subst q; exact Or.inl (by decide)) (fun hz => (List.mem_cons.mp hz).elim (fun q => by subst q; exact Or.inl (by decide)) (fun hz => absurd hz List.not_mem_nil))))))))))))))))))))))))))))))))))))))))))))) (by decide) (by decide) hxl86 (xc_1 hG) hce hcv hcl ?_
      have hS := hS9
      have ht_1 := ht
      refine lv_astore (lv' := [(5, .ref q9), (0, .ref t_p_), (1, .int 4), (2, .int a_), (3, .int b_), (4, .int c_)]) hx hb dL_asks_261 hl (by decide) rfl (fun ls hl => ?_)
      refine lv_sipush (v := (-20003)) hx hb dL_asks_263 (by decide) ?_
      refine W.widen (k := 3) (n := 18) (by omega) (by omega) ?_
      exact W.iret (v := (-20003)) hx hb hr (fun t ht hW => ⟨⟨(-20003), (ad_2, o_3, ()), rfl, ⟨hw, had_2⟩, ⟨P_at ht hP, hD⟩⟩, hS.F ht⟩) hS.2.2 dL_asks_266
    · refine vx_catch (own := RL) (name := "java/lang/IllegalStateException") (E := "java/lang/IllegalStateException") hown [⟨0, 100, 249, 82⟩, ⟨101, 111, 249, 82⟩, ⟨112, 122, 249, 82⟩, ⟨123, 129, 249, 82⟩, ⟨130, 138, 249, 82⟩, ⟨139, 145, 249, 82⟩, ⟨146, 154, 249, 82⟩, ⟨155, 161, 249, 82⟩, ⟨162, 168, 249, 82⟩, ⟨169, 174, 249, 82⟩, ⟨175, 179, 249, 82⟩, ⟨180, 185, 249, 82⟩, ⟨186, 195, 249, 82⟩, ⟨196, 202, 249, 82⟩, ⟨203, 209, 249, 82⟩, ⟨210, 216, 249, 82⟩, ⟨217, 221, 249, 82⟩, ⟨222, 228, 249, 82⟩, ⟨229, 239, 249, 82⟩, ⟨240, 248, 249, 82⟩, ⟨0, 100, 255, 84⟩, ⟨101, 111, 255, 84⟩, ⟨112, 122, 255, 84⟩, ⟨123, 129, 255, 84⟩, ⟨130, 138, 255, 84⟩, ⟨139, 145, 255, 84⟩, ⟨146, 154, 255, 84⟩, ⟨155, 161, 255, 84⟩, ⟨162, 168, 255, 84⟩, ⟨169, 174, 255, 84⟩, ⟨175, 179, 255, 84⟩, ⟨180, 185, 255, 84⟩, ⟨186, 195, 255, 84⟩, ⟨196, 202, 255, 84⟩, ⟨203, 209, 255, 84⟩, ⟨210, 216, 255, 84⟩, ⟨217, 221, 255, 84⟩, ⟨222, 228, 255, 84⟩, ⟨229, 239, 255, 84⟩, ⟨240, 248, 255, 84⟩, ⟨0, 100, 261, 86⟩, ⟨101, 111, 261, 86⟩, ⟨112, 122, 261, 86⟩, ⟨123, 129, 261, 86⟩, ⟨130, 138, 261, 86⟩, ⟨139, 145, 261, 86⟩, ⟨146, 154, 261, 86⟩, ⟨155, 161, 261, 86⟩, ⟨162, 168, 261, 86⟩, ⟨169, 174, 261, 86⟩, ⟨175, 179, 261, 86⟩, ⟨180, 185, 261, 86⟩, ⟨186, 195, 261, 86⟩, ⟨196, 202, 261, 86⟩, ⟨203, 209, 261, 86⟩, ⟨210, 216, 261, 86⟩, ⟨217, 221, 261, 86⟩, ⟨222, 228, 261, 86⟩, ⟨229, 239, 261, 86⟩, ⟨240, 248, 261, 86⟩, ⟨0, 100, 267, 88⟩, ⟨101, 111, 267, 88⟩, ⟨112, 122, 267, 88⟩, ⟨123, 129, 267, 88⟩] ⟨130, 138, 267, 88⟩ [⟨139, 145, 267, 88⟩, ⟨146, 154, 267, 88⟩, ⟨155, 161, 267, 88⟩, ⟨162, 168, 267, 88⟩, ⟨169, 174, 267, 88⟩, ⟨175, 179, 267, 88⟩, ⟨180, 185, 267, 88⟩, ⟨186, 195, 267, 88⟩, ⟨196, 202, 267, 88⟩, ⟨203, 209, 267, 88⟩, ⟨210, 216, 267, 88⟩, ⟨217, 221, 267, 88⟩, ⟨222, 228, 267, 88⟩, ⟨229, 239, 267, 88⟩, ⟨240, 248, 267, 88⟩] (by rw [hTab]; rfl) (fun z hz => (List.mem_cons.mp hz).elim (fun q => by subst q; exact Or.inl (by decide)) (fun hz => (List.mem_cons.mp hz).elim (fun q => by subst q; exact Or.inl (by decide)) (fun hz => (List.mem_cons.mp hz).elim (fun q => by subst q; exact Or.inl (by decide)) (fun hz => (List.mem_cons.mp hz).elim (fun q => by subst q; exact Or.inl (by decide)) (fun hz => (List.mem_cons.mp hz).elim (fun q => by subst q; exact Or.inr ⟨by decide, _, hxl82, nc_3 hG⟩) (fun hz => (List.mem_cons.mp hz).elim (fun q => by subst q; exact Or.inl (by decide)) (fun hz => (List.mem_cons.mp hz).elim (fun q => by subst q; exact Or.inl (by decide)) (fun hz => (List.mem_cons.mp hz).elim (fun q => by subst q; exact Or.inl (by decide)) (fun hz => (List.mem_cons.mp hz).elim (fun q => by subst q; exact Or.inl (by decide)) (fun hz => (List.mem_cons.mp hz).elim (fun q => by subst q; exact Or.inl (by decide)) (fun hz => (List.mem_cons.mp hz).elim (fun q => by subst q; exact Or.inl (by decide)) (fun hz => (List.mem_cons.mp hz).elim (fun q => by subst q; exact Or.inl (by decide)) (fun hz => (List.mem_cons.mp hz).elim (fun q => by subst q; exact Or.inl (by decide)) (fun hz => (List.mem_cons.mp hz).elim (fun q => by subst q; exact Or.inl (by decide)) (fun hz => (List.mem_cons.mp hz).elim (fun q => by subst q; exact Or.inl (by decide)) (fun hz => (List.mem_cons.mp hz).elim (fun q => by subst q; exact Or.inl (by decide)) (fun hz => (List.mem_cons.mp hz).elim (fun q => by subst q; exact Or.inl (by decide)) (fun hz => (List.mem_cons.mp hz).elim (fun q => by subst q; exact Or.inl (by decide)) (fun hz => (List.mem_cons.mp hz).elim (fun q => by subst q; exact Or.inl (by decide)) (fun hz => (List.mem_cons.mp hz).elim (fun q => by subst q; exact Or.inl (by decide)) (fun hz => (List.mem_cons.mp hz).elim (fun q => by subst q; exact Or.inl (by decide)) (fun hz => (List.mem_cons.mp hz).elim (fun q => by subst q; exact Or.inl (by decide)) (fun hz => (List.mem_cons.mp hz).elim (fun q => by subst q; exact Or.inl (by decide)) (fun hz => (List.mem_cons.mp hz).elim (fun q => by subst q; exact Or.inl (by decide)) (fun hz => (List.mem_cons.mp hz).elim (fun q => by subst q; exact Or.inr ⟨by decide, _, hxl84, nc_4 hG⟩) (fun hz => (List.mem_cons.mp hz).elim (fun q => by subst q; exact Or.inl (by decide)) (fun hz => (List.mem_cons.mp hz).elim (fun q => by subst q; exact Or.inl (by decide)) (fun hz => (List.mem_cons.mp hz).elim (fun q => by subst q; exact Or.inl (by decide)) (fun hz => (List.mem_cons.mp hz).elim (fun q => by subst q; exact Or.inl (by decide)) (fun hz => (List.mem_cons.mp hz).elim (fun q => by subst q; exact Or.inl (by decide)) (fun hz => (List.mem_cons.mp hz).elim (fun q => by subst q; exact Or.inl (by decide)) (fun hz => (List.mem_cons.mp hz).elim (fun q => by subst q; exact Or.inl (by decide)) (fun hz => (List.mem_cons.mp hz).elim (fun q => by subst q; exact Or.inl (by decide)) (fun hz => (List.mem_cons.mp hz).elim (fun q => by subst q; exact Or.inl (by decide)) (fun hz => (List.mem_cons.mp hz).elim (fun q => by subst q; exact Or.inl (by decide)) (fun hz => (List.mem_cons.mp hz).elim (fun q => by subst q; exact Or.inl (by decide)) (fun hz => (List.mem_cons.mp hz).elim (fun q => by subst q; exact Or.inl (by decide)) (fun hz => (List.mem_cons.mp hz).elim (fun q => by subst q; exact Or.inl (by decide)) (fun hz => (List.mem_cons.mp hz).elim (fun q => by subst q; exact Or.inl (by decide)) (fun hz => (List.mem_cons.mp hz).elim (fun q => by subst q; exact Or.inl (by decide)) (fun hz => (List.mem_cons.mp hz).elim (fun q => by subst q; exact Or.inl (by decide)) (fun hz => (List.mem_cons.mp hz).elim (fun q => by subst q; exact Or.inl (by decide)) (fun hz => (List.mem_cons.mp hz).elim (fun q => by subst q; exact Or.inl (by decide)) (fun hz => (List.mem_cons.mp hz).elim (fun q => by subst q; exact Or.inl (by decide)) (fun hz => (List.mem_cons.mp hz).elim (fun q => by subst q; exact Or.inr ⟨by decide, _, hxl86, nc_5 hG⟩) (fun hz => (List.mem_cons.mp hz).elim (fun q => by subst q; exact Or.inl (by decide)) (fun hz => (List.mem_cons.mp hz).elim (fun q => by subst q; exact Or.inl (by decide)) (fun hz => (List.mem_cons.mp hz).elim (fun q => by subst q; exact Or.inl (by decide)) (fun hz => (List.mem_cons.mp hz).elim (fun q => by subst q; exact Or.inl (by decide)) (fun hz => (List.mem_cons.mp hz).elim (fun q => by subst q; exact Or.inl (by decide)) (fun hz => (List.mem_cons.mp hz).elim (fun q => by subst q; exact Or.inl (by decide)) (fun hz => (List.mem_cons.mp hz).elim (fun q => by subst q; exact Or.inl (by decide)) (fun hz => (List.mem_cons.mp hz).elim (fun q => by subst q; exact Or.inl (by decide)) (fun hz => (List.mem_cons.mp hz).elim (fun q => by subst q; exact Or.inl (by decide)) (fun hz => (List.mem_cons.mp hz).elim (fun q => by subst q; exact Or.inl (by decide)) (fun hz => (List.mem_cons.mp hz).elim (fun q => by subst q; exact Or.inl (by decide)) (fun hz => (List.mem_cons.mp hz).elim (fun q => by subst q; exact Or.inl (by decide)) (fun hz => (List.mem_cons.mp hz).elim (fun q => by subst q; exact Or.inl (by decide)) (fun hz => (List.mem_cons.mp hz).elim (fun q => by subst q; exact Or.inl (by decide)) (fun hz => (List.mem_cons.mp hz).elim (fun q => by subst q; exact Or.inl (by decide)) (fun hz => (List.mem_cons.mp hz).elim (fun q => by subst q; exact Or.inl (by decide)) (fun hz => (List.mem_cons.mp hz).elim (fun q => by subst q; exact Or.inl (by decide)) (fun hz => (List.mem_cons.mp hz).elim (fun q => by subst q; exact Or.inl (by decide)) (fun hz => (List.mem_cons.mp hz).elim (fun q => by subst q; exact Or.inl (by decide)) (fun hz => absurd hz List.not_mem_nil))))))))))))))))))))))))))))))))))))))))))))))))))))))))))))))))) (by decide) (by decide) hxl88 (xc_2 hG) hce hcv hcl ?_
      have hS := hS9
      have ht_1 := ht
      refine lv_astore (lv' := [(5, .ref q9), (0, .ref t_p_), (1, .int 4), (2, .int a_), (3, .int b_), (4, .int c_)]) hx hb dL_asks_267 hl (by decide) rfl (fun ls hl => ?_)
      refine lv_sipush (v := (-20004)) hx hb dL_asks_269 (by decide) ?_
      refine W.widen (k := 3) (n := 18) (by omega) (by omega) ?_
      exact W.iret (v := (-20004)) hx hb hr (fun t ht hW => ⟨⟨(-20004), (ad_2, o_3, ()), rfl, ⟨hw, had_2⟩, ⟨P_at ht hP, hD⟩⟩, hS.F ht⟩) hS.2.2 dL_asks_272
  obtain ⟨ad_4, o_5⟩ := u_1
  obtain ⟨hw, had_4⟩ := hw_1
  rw [ht_1] at hB_1
  obtain ⟨hP1, hD1⟩ := hB_1
  obtain ⟨hP, hD⟩ := join_r hPs hDs hk_1 hFc hP1 hD1
  obtain ⟨hP, hD⟩ := seg_join [] [offS ad_4 tp_p_ hd_p_ tf_p_ cf_p_ g o_5] [offS ad_4 tp_p_ hd_p_ tf_p_ cf_p_ g o_5] 1 [0] rfl rfl (by decide) hP hD
  have hP : va_P (dC, dI) vwCl (offS ad_4 tp_p_ hd_p_ tf_p_ cf_p_ g o_5) H_1 := hP
  have hD : va_D A (offS ad_4 tp_p_ hd_p_ tf_p_ cf_p_ g o_5) := hD
  refine W.widen (k := 3) (n := 18) (by omega) (by omega) ?_
  refine W.widen (k := 3) (n := 18) (by omega) (by omega) ?_
  exact W.iret (v := r_1) hx hb hr (fun t ht hW => ⟨⟨r_1, (ad_4, o_5, ()), rfl, ⟨hw, had_4⟩, ⟨P_at ht hP, hD⟩⟩, hS.F ht⟩) hS.2.2 dL_asks_138
theorem dL_asks_139 : decode cL_asks 139 = .ok (.aload_n 0, 1) := by decide +kernel
theorem dL_asks_140 : decode cL_asks 140 = .ok (.iload_n 2, 1) := by decide +kernel
theorem dL_asks_141 : decode cL_asks 141 = .ok (.iload_n 3, 1) := by decide +kernel
theorem dL_asks_142 : decode cL_asks 142 = .ok (.invokevirtual 37, 3) := by decide +kernel
theorem dL_asks_145 : decode cL_asks 145 = .ok (.ireturn, 1) := by decide +kernel

set_option maxHeartbeats 8000000 in
set_option maxRecDepth 100000 in
theorem c_L_asks_5 (l : Launch) (hlf : l.stackTraces = false) (dC : Nat → ClassId) (dI : Nat → Nat → Nat) (g : Nat → ClassId) (tp_p_ hd_p_ : Nat → Nat) (tf_p_ cf_p_ : Nat → Option Nat) (htf_p_ : ∀ j, j < 8 → tf_p_ j = some (tp_p_ j)) (hcf_p_ : ∀ j, j < 8 → cf_p_ j = some (tp_p_ (8 + j))) (a_p_ : Nat → Nat) (t_p_ : Nat) (h_p_ : a_p_ 0 = t_p_) (o_p_ : OS) (a_ : Int32) (b_ : Int32) (c_ : Int32) (Q : Int32 → OS → Prop) (hw : wp_L_asks_5 o_p_ a_ b_ Q) (sz : Nat) : Met l yL_asks wqL_asks ({ frames := 8, cells := 2, slots := 12, locals := 128 }) (va_Pc [.ref t_p_, .int 5, .int a_, .int b_, .int c_] (PG (dC, dI) g (offS a_p_ tp_p_ hd_p_ tf_p_ cf_p_ g o_p_) sz)) (va_Qi (fun (r : Int32) (u : (Nat → Nat) × OS × Unit) => Q r u.2.1 ∧ u.1 0 = t_p_) (fun (u : (Nat → Nat) × OS × Unit) t9 => va_P (dC, dI) vwCl (offS u.1 tp_p_ hd_p_ tf_p_ cf_p_ g u.2.1) t9.heap ∧ va_D (va_A (offS a_p_ tp_p_ hd_p_ tf_p_ cf_p_ g o_p_) sz) (offS u.1 tp_p_ hd_p_ tf_p_ cf_p_ g u.2.1)) (va_A (offS a_p_ tp_p_ hd_p_ tf_p_ cf_p_ g o_p_) sz)) 2 12 (va_A (offS a_p_ tp_p_ hd_p_ tf_p_ cf_p_ g o_p_) sz) := by
  refine mt_ofWH (cc := cL_asks) (maxL := 6) (ret := (some .int)) (hh := [(0, 100, 249, 82), (101, 111, 249, 82), (112, 122, 249, 82), (123, 129, 249, 82), (130, 138, 249, 82), (139, 145, 249, 82), (146, 154, 249, 82), (155, 161, 249, 82), (162, 168, 249, 82), (169, 174, 249, 82), (175, 179, 249, 82), (180, 185, 249, 82), (186, 195, 249, 82), (196, 202, 249, 82), (203, 209, 249, 82), (210, 216, 249, 82), (217, 221, 249, 82), (222, 228, 249, 82), (229, 239, 249, 82), (240, 248, 249, 82), (0, 100, 255, 84), (101, 111, 255, 84), (112, 122, 255, 84), (123, 129, 255, 84), (130, 138, 255, 84), (139, 145, 255, 84), (146, 154, 255, 84), (155, 161, 255, 84), (162, 168, 255, 84), (169, 174, 255, 84), (175, 179, 255, 84), (180, 185, 255, 84), (186, 195, 255, 84), (196, 202, 255, 84), (203, 209, 255, 84), (210, 216, 255, 84), (217, 221, 255, 84), (222, 228, 255, 84), (229, 239, 255, 84), (240, 248, 255, 84), (0, 100, 261, 86), (101, 111, 261, 86), (112, 122, 261, 86), (123, 129, 261, 86), (130, 138, 261, 86), (139, 145, 261, 86), (146, 154, 261, 86), (155, 161, 261, 86), (162, 168, 261, 86), (169, 174, 261, 86), (175, 179, 261, 86), (180, 185, 261, 86), (186, 195, 261, 86), (196, 202, 261, 86), (203, 209, 261, 86), (210, 216, 261, 86), (217, 221, 261, 86), (222, 228, 261, 86), (229, 239, 261, 86), (240, 248, 261, 86), (0, 100, 267, 88), (101, 111, 267, 88), (112, 122, 267, 88), (123, 129, 267, 88), (130, 138, 267, 88), (139, 145, 267, 88), (146, 154, 267, 88), (155, 161, 267, 88), (162, 168, 267, 88), (169, 174, 267, 88), (175, 179, 267, 88), (180, 185, 267, 88), (186, 195, 267, 88), (196, 202, 267, 88), (203, 209, 267, 88), (210, 216, 267, 88), (217, 221, 267, 88), (222, 228, 267, 88), (229, 239, 267, 88), (240, 248, 267, 88)]) (by decide) rfl ?_
  intro p e s m args below meth c s₁ B hml hv
  obtain ⟨rfl, hsz, hP, hK, hD0, hG⟩ := hv
  have hx := B.exec
  have hb := B.bytes
  have hr := B.returns
  have hts := atoms_spec (ws := wqL_asks) B.pre
  have hown : s.vm.findClass RL = some m.cls := findClass_of_methodNamed B.named
  have hlocks := B.notSynchronized
  subst hsz
  have hD := hD0.self (sz := s.heap.size)
  generalize hAe : va_A (offS a_p_ tp_p_ hd_p_ tf_p_ cf_p_ g o_p_) s.heap.size = A at hD hG ⊢
  have hA : ∀ q : Nat, s.heap.size ≤ q → A q := fun q h => by rw [← hAe]; exact Or.inr h
  have hS : va_S A s.heap s.heap [] := va_S.rf
  have hrc : (headSpec wqL_asks ({ frames := 8, cells := 2, slots := 12, locals := 128 })).room.cells = 2 := rfl
  have hrs : (headSpec wqL_asks ({ frames := 8, cells := 2, slots := 12, locals := 128 })).room.slots = 12 := rfl
  have hTab := vx_table (x := yL_asks) B (hts (Cond.codeWith yL_asks cL_asks 6 (some .int) [(0, 100, 249, 82), (101, 111, 249, 82), (112, 122, 249, 82), (123, 129, 249, 82), (130, 138, 249, 82), (139, 145, 249, 82), (146, 154, 249, 82), (155, 161, 249, 82), (162, 168, 249, 82), (169, 174, 249, 82), (175, 179, 249, 82), (180, 185, 249, 82), (186, 195, 249, 82), (196, 202, 249, 82), (203, 209, 249, 82), (210, 216, 249, 82), (217, 221, 249, 82), (222, 228, 249, 82), (229, 239, 249, 82), (240, 248, 249, 82), (0, 100, 255, 84), (101, 111, 255, 84), (112, 122, 255, 84), (123, 129, 255, 84), (130, 138, 255, 84), (139, 145, 255, 84), (146, 154, 255, 84), (155, 161, 255, 84), (162, 168, 255, 84), (169, 174, 255, 84), (175, 179, 255, 84), (180, 185, 255, 84), (186, 195, 255, 84), (196, 202, 255, 84), (203, 209, 255, 84), (210, 216, 255, 84), (217, 221, 255, 84), (222, 228, 255, 84), (229, 239, 255, 84), (240, 248, 255, 84), (0, 100, 261, 86), (101, 111, 261, 86), (112, 122, 261, 86), (123, 129, 261, 86), (130, 138, 261, 86), (139, 145, 261, 86), (146, 154, 261, 86), (155, 161, 261, 86), (162, 168, 261, 86), (169, 174, 261, 86), (175, 179, 261, 86), (180, 185, 261, 86), (186, 195, 261, 86), (196, 202, 261, 86), (203, 209, 261, 86), (210, 216, 261, 86), (217, 221, 261, 86), (222, 228, 261, 86), (229, 239, 261, 86), (240, 248, 261, 86), (0, 100, 267, 88), (101, 111, 267, 88), (112, 122, 267, 88), (123, 129, 267, 88), (130, 138, 267, 88), (139, 145, 267, 88), (146, 154, 267, 88), (155, 161, 267, 88), (162, 168, 267, 88), (169, 174, 267, 88), (175, 179, 267, 88), (180, 185, 267, 88), (186, 195, 267, 88), (196, 202, 267, 88), (203, 209, 267, 88), (210, 216, 267, 88), (217, 221, 267, 88), (222, 228, 267, 88), (229, 239, 267, 88), (240, 248, 267, 88)]) (List.mem_cons_self))
  have hl := lv_entry ([.ref t_p_, .int 5, .int a_, .int b_, .int c_]) (n := 6) (Nat.le_of_ble_eq_true rfl)
  rw [lg_entry_eq]
  generalize (lg_sl ([.ref t_p_, .int 5, .int a_, .int b_, .int c_]) ++ List.replicate (6 - (lg_sl ([.ref t_p_, .int 5, .int a_, .int b_, .int c_])).length) Slot.unset).toArray = ls at hl ⊢
  have hl : lv_has ls 6 [(0, .ref t_p_), (1, .int 5), (2, .int a_), (3, .int b_), (4, .int c_)] := hl
  unfold wp_L_asks_5 at hw
  have hxl82 := hts (Cond.classLink RL 82 "java/lang/IndexOutOfBoundsException") (aw_l aw_4_48)
  have hxl84 := hts (Cond.classLink RL 84 "java/util/NoSuchElementException") (aw_l aw_4_49)
  have hxl86 := hts (Cond.classLink RL 86 "java/lang/IllegalArgumentException") (aw_l aw_4_50)
  have hxl88 := hts (Cond.classLink RL 88 "java/lang/IllegalStateException") (aw_l aw_4_51)
  refine lv_iload_n hx hb dL_asks_0 rfl (lv_at hl 1 rfl) ?_
  refine lv_tableIn (tgt := 139) hx hb dL_asks_1 (by decide) (by decide) rfl (by decide) ?_
  refine lv_aload_n hx hb dL_asks_139 rfl (lv_at hl 0 rfl) ?_
  refine lv_iload_n hx hb dL_asks_140 rfl (lv_at hl 2 rfl) ?_
  refine lv_iload_n hx hb dL_asks_141 rfl (lv_at hl 3 rfl) ?_
  obtain ⟨hPs, hDs⟩ := seg_call (segs := [offS a_p_ tp_p_ hd_p_ tf_p_ cf_p_ g o_p_]) [] [offS a_p_ tp_p_ hd_p_ tf_p_ cf_p_ g o_p_] 1 [0] rfl rfl (by decide) hP hD
  have hPc : va_P (dC, dI) vwCl (offS a_p_ tp_p_ hd_p_ tf_p_ cf_p_ g o_p_) s.heap := P_r hPs
  have hDc : va_D A (offS a_p_ tp_p_ hd_p_ tf_p_ cf_p_ g o_p_) := D_r hDs
  have hFc : ∀ q, va_A (offS a_p_ tp_p_ hd_p_ tf_p_ cf_p_ g o_p_) s.heap.size q → A q := A_all hDc hA hS.1
  refine vx_calli (vx_runV (As := [.int a_, .int b_]) (rest := []) ⟨hx, hb, hml, hown, hts⟩ (p_setMerge l hlf dC dI g tp_p_ hd_p_ tf_p_ cf_p_ htf_p_ hcf_p_ a_p_ t_p_ h_p_ o_p_ a_ b_ (hw := hw) (sz := s.heap.size)) (cwV 2 hts (gqV aw_4_52 aw_4_53 aw_4_54 aw_1_1 aw_4_55) rfl rfl rfl (by decide +kernel) ⟨Nat.le_of_ble_eq_true rfl, Nat.le_of_ble_eq_true rfl⟩) ⟨PG_blind, off_recv h_p_ hK hPc, PG_call hK hG hS hPc hDc hFc⟩ rfl rfl hl.1 rfl (lv_room (Nat.le_of_ble_eq_true rfl)) dL_asks_142 ⟨by rw [hrc]; omega, by rw [hrs]; omega⟩) hS (fun q _ h => hFc q h) hFc (fun q _ h => hFc q h) (fun E ce q9 ux t H1 locs1 ht hvm hp9 hB9 hz hk hS9 hce hcv hcl => ?_) (fun r_1 u_1 t_1 H_1 L_1 ht_1 hvm_1 hw_1 hB_1 hz_1 hk_1 hS => ?_)
  · obtain ⟨ad_2, o_3⟩ := ux
    obtain ⟨⟨hw9, had_2⟩, hB9⟩ := hB9
    rw [ht] at hB9
    obtain ⟨hP1, hD1⟩ := hB9
    obtain ⟨hP, hD⟩ := join_r hPs hDs hk hFc hP1 hD1
    obtain ⟨hP, hD⟩ := seg_join [] [offS ad_2 tp_p_ hd_p_ tf_p_ cf_p_ g o_3] [offS ad_2 tp_p_ hd_p_ tf_p_ cf_p_ g o_3] 1 [0] rfl rfl (by decide) hP hD
    have hP : va_P (dC, dI) vwCl (offS ad_2 tp_p_ hd_p_ tf_p_ cf_p_ g o_3) H1 := hP
    have hD : va_D A (offS ad_2 tp_p_ hd_p_ tf_p_ cf_p_ g o_3) := hD
    rcases hw9 with ⟨rfl, hw⟩ | ⟨rfl, hw⟩ | ⟨rfl, hw⟩ | ⟨rfl, hw⟩
    · refine vx_catch (own := RL) (name := "java/lang/IndexOutOfBoundsException") (E := "java/lang/IndexOutOfBoundsException") hown [⟨0, 100, 249, 82⟩, ⟨101, 111, 249, 82⟩, ⟨112, 122, 249, 82⟩, ⟨123, 129, 249, 82⟩, ⟨130, 138, 249, 82⟩] ⟨139, 145, 249, 82⟩ [⟨146, 154, 249, 82⟩, ⟨155, 161, 249, 82⟩, ⟨162, 168, 249, 82⟩, ⟨169, 174, 249, 82⟩, ⟨175, 179, 249, 82⟩, ⟨180, 185, 249, 82⟩, ⟨186, 195, 249, 82⟩, ⟨196, 202, 249, 82⟩, ⟨203, 209, 249, 82⟩, ⟨210, 216, 249, 82⟩, ⟨217, 221, 249, 82⟩, ⟨222, 228, 249, 82⟩, ⟨229, 239, 249, 82⟩, ⟨240, 248, 249, 82⟩, ⟨0, 100, 255, 84⟩, ⟨101, 111, 255, 84⟩, ⟨112, 122, 255, 84⟩, ⟨123, 129, 255, 84⟩, ⟨130, 138, 255, 84⟩, ⟨139, 145, 255, 84⟩, ⟨146, 154, 255, 84⟩, ⟨155, 161, 255, 84⟩, ⟨162, 168, 255, 84⟩, ⟨169, 174, 255, 84⟩, ⟨175, 179, 255, 84⟩, ⟨180, 185, 255, 84⟩, ⟨186, 195, 255, 84⟩, ⟨196, 202, 255, 84⟩, ⟨203, 209, 255, 84⟩, ⟨210, 216, 255, 84⟩, ⟨217, 221, 255, 84⟩, ⟨222, 228, 255, 84⟩, ⟨229, 239, 255, 84⟩, ⟨240, 248, 255, 84⟩, ⟨0, 100, 261, 86⟩, ⟨101, 111, 261, 86⟩, ⟨112, 122, 261, 86⟩, ⟨123, 129, 261, 86⟩, ⟨130, 138, 261, 86⟩, ⟨139, 145, 261, 86⟩, ⟨146, 154, 261, 86⟩, ⟨155, 161, 261, 86⟩, ⟨162, 168, 261, 86⟩, ⟨169, 174, 261, 86⟩, ⟨175, 179, 261, 86⟩, ⟨180, 185, 261, 86⟩, ⟨186, 195, 261, 86⟩, ⟨196, 202, 261, 86⟩, ⟨203, 209, 261, 86⟩, ⟨210, 216, 261, 86⟩, ⟨217, 221, 261, 86⟩, ⟨222, 228, 261, 86⟩, ⟨229, 239, 261, 86⟩, ⟨240, 248, 261, 86⟩, ⟨0, 100, 267, 88⟩, ⟨101, 111, 267, 88⟩, ⟨112, 122, 267, 88⟩, ⟨123, 129, 267, 88⟩, ⟨130, 138, 267, 88⟩, ⟨139, 145, 267, 88⟩, ⟨146, 154, 267, 88⟩, ⟨155, 161, 267, 88⟩, ⟨162, 168, 267, 88⟩, ⟨169, 174, 267, 88⟩, ⟨175, 179, 267, 88⟩, ⟨180, 185, 267, 88⟩, ⟨186, 195, 267, 88⟩, ⟨196, 202, 267, 88⟩, ⟨203, 209, 267, 88⟩, ⟨210, 216, 267, 88⟩, ⟨217, 221, 267, 88⟩, ⟨222, 228, 267, 88⟩, ⟨229, 239, 267, 88⟩, ⟨240, 248, 267, 88⟩] (by rw [hTab]; rfl) (fun z hz => (List.mem_cons.mp hz).elim (fun q => by subst q; exact Or.inl (by decide)) (fun hz => (List.mem_cons.mp hz).elim (fun q => by subst q; exact Or.inl (by decide)) (fun hz => (List.mem_cons.mp hz).elim (fun q => by subst q; exact Or.inl (by decide)) (fun hz => (List.mem_cons.mp hz).elim (fun q => by subst q; exact Or.inl (by decide)) (fun hz => (List.mem_cons.mp hz).elim (fun q => by subst q; exact Or.inl (by decide)) (fun hz => absurd hz List.not_mem_nil)))))) (by decide) (by decide) hxl82 (xc_0 hG) hce hcv hcl ?_
      have hS := hS9
      have ht_1 := ht
      refine lv_astore (lv' := [(5, .ref q9), (0, .ref t_p_), (1, .int 5), (2, .int a_), (3, .int b_), (4, .int c_)]) hx hb dL_asks_249 hl (by decide) rfl (fun ls hl => ?_)
      refine lv_sipush (v := (-20001)) hx hb dL_asks_251 (by decide) ?_
      refine W.widen (k := 2) (n := 12) (by omega) (by omega) ?_
      exact W.iret (v := (-20001)) hx hb hr (fun t ht hW => ⟨⟨(-20001), (ad_2, o_3, ()), rfl, ⟨hw, had_2⟩, ⟨P_at ht hP, hD⟩⟩, hS.F ht⟩) hS.2.2 dL_asks_254
    · refine vx_catch (own := RL) (name := "java/util/NoSuchElementException") (E := "java/util/NoSuchElementException") hown [⟨0, 100, 249, 82⟩, ⟨101, 111, 249, 82⟩, ⟨112, 122, 249, 82⟩, ⟨123, 129, 249, 82⟩, ⟨130, 138, 249, 82⟩, ⟨139, 145, 249, 82⟩, ⟨146, 154, 249, 82⟩, ⟨155, 161, 249, 82⟩, ⟨162, 168, 249, 82⟩, ⟨169, 174, 249, 82⟩, ⟨175, 179, 249, 82⟩, ⟨180, 185, 249, 82⟩, ⟨186, 195, 249, 82⟩, ⟨196, 202, 249, 82⟩, ⟨203, 209, 249, 82⟩, ⟨210, 216, 249, 82⟩, ⟨217, 221, 249, 82⟩, ⟨222, 228, 249, 82⟩, ⟨229, 239, 249, 82⟩, ⟨240, 248, 249, 82⟩, ⟨0, 100, 255, 84⟩, ⟨101, 111, 255, 84⟩, ⟨112, 122, 255, 84⟩, ⟨123, 129, 255, 84⟩, ⟨130, 138, 255, 84⟩] ⟨139, 145, 255, 84⟩ [⟨146, 154, 255, 84⟩, ⟨155, 161, 255, 84⟩, ⟨162, 168, 255, 84⟩, ⟨169, 174, 255, 84⟩, ⟨175, 179, 255, 84⟩, ⟨180, 185, 255, 84⟩, ⟨186, 195, 255, 84⟩, ⟨196, 202, 255, 84⟩, ⟨203, 209, 255, 84⟩, ⟨210, 216, 255, 84⟩, ⟨217, 221, 255, 84⟩, ⟨222, 228, 255, 84⟩, ⟨229, 239, 255, 84⟩, ⟨240, 248, 255, 84⟩, ⟨0, 100, 261, 86⟩, ⟨101, 111, 261, 86⟩, ⟨112, 122, 261, 86⟩, ⟨123, 129, 261, 86⟩, ⟨130, 138, 261, 86⟩, ⟨139, 145, 261, 86⟩, ⟨146, 154, 261, 86⟩, ⟨155, 161, 261, 86⟩, ⟨162, 168, 261, 86⟩, ⟨169, 174, 261, 86⟩, ⟨175, 179, 261, 86⟩, ⟨180, 185, 261, 86⟩, ⟨186, 195, 261, 86⟩, ⟨196, 202, 261, 86⟩, ⟨203, 209, 261, 86⟩, ⟨210, 216, 261, 86⟩, ⟨217, 221, 261, 86⟩, ⟨222, 228, 261, 86⟩, ⟨229, 239, 261, 86⟩, ⟨240, 248, 261, 86⟩, ⟨0, 100, 267, 88⟩, ⟨101, 111, 267, 88⟩, ⟨112, 122, 267, 88⟩, ⟨123, 129, 267, 88⟩, ⟨130, 138, 267, 88⟩, ⟨139, 145, 267, 88⟩, ⟨146, 154, 267, 88⟩, ⟨155, 161, 267, 88⟩, ⟨162, 168, 267, 88⟩, ⟨169, 174, 267, 88⟩, ⟨175, 179, 267, 88⟩, ⟨180, 185, 267, 88⟩, ⟨186, 195, 267, 88⟩, ⟨196, 202, 267, 88⟩, ⟨203, 209, 267, 88⟩, ⟨210, 216, 267, 88⟩, ⟨217, 221, 267, 88⟩, ⟨222, 228, 267, 88⟩, ⟨229, 239, 267, 88⟩, ⟨240, 248, 267, 88⟩] (by rw [hTab]; rfl) (fun z hz => (List.mem_cons.mp hz).elim (fun q => by subst q; exact Or.inl (by decide)) (fun hz => (List.mem_cons.mp hz).elim (fun q => by subst q; exact Or.inl (by decide)) (fun hz => (List.mem_cons.mp hz).elim (fun q => by subst q; exact Or.inl (by decide)) (fun hz => (List.mem_cons.mp hz).elim (fun q => by subst q; exact Or.inl (by decide)) (fun hz => (List.mem_cons.mp hz).elim (fun q => by subst q; exact Or.inl (by decide)) (fun hz => (List.mem_cons.mp hz).elim (fun q => by subst q; exact Or.inr ⟨by decide, _, hxl82, nc_0 hG⟩) (fun hz => (List.mem_cons.mp hz).elim (fun q => by subst q; exact Or.inl (by decide)) (fun hz => (List.mem_cons.mp hz).elim (fun q => by subst q; exact Or.inl (by decide)) (fun hz => (List.mem_cons.mp hz).elim (fun q => by subst q; exact Or.inl (by decide)) (fun hz => (List.mem_cons.mp hz).elim (fun q => by subst q; exact Or.inl (by decide)) (fun hz => (List.mem_cons.mp hz).elim (fun q => by subst q; exact Or.inl (by decide)) (fun hz => (List.mem_cons.mp hz).elim (fun q => by subst q; exact Or.inl (by decide)) (fun hz => (List.mem_cons.mp hz).elim (fun q => by subst q; exact Or.inl (by decide)) (fun hz => (List.mem_cons.mp hz).elim (fun q => by subst q; exact Or.inl (by decide)) (fun hz => (List.mem_cons.mp hz).elim (fun q => by subst q; exact Or.inl (by decide)) (fun hz => (List.mem_cons.mp hz).elim (fun q => by subst q; exact Or.inl (by decide)) (fun hz => (List.mem_cons.mp hz).elim (fun q => by subst q; exact Or.inl (by decide)) (fun hz => (List.mem_cons.mp hz).elim (fun q => by subst q; exact Or.inl (by decide)) (fun hz => (List.mem_cons.mp hz).elim (fun q => by subst q; exact Or.inl (by decide)) (fun hz => (List.mem_cons.mp hz).elim (fun q => by subst q; exact Or.inl (by decide)) (fun hz => (List.mem_cons.mp hz).elim (fun q => by subst q; exact Or.inl (by decide)) (fun hz => (List.mem_cons.mp hz).elim (fun q => by subst q; exact Or.inl (by decide)) (fun hz => (List.mem_cons.mp hz).elim (fun q => by subst q; exact Or.inl (by decide)) (fun hz => (List.mem_cons.mp hz).elim (fun q => by subst q; exact Or.inl (by decide)) (fun hz => (List.mem_cons.mp hz).elim (fun q => by subst q; exact Or.inl (by decide)) (fun hz => absurd hz List.not_mem_nil)))))))))))))))))))))))))) (by decide) (by decide) hxl84 (xc_3 hG) hce hcv hcl ?_
      have hS := hS9
      have ht_1 := ht
      refine lv_astore (lv' := [(5, .ref q9), (0, .ref t_p_), (1, .int 5), (2, .int a_), (3, .int b_), (4, .int c_)]) hx hb dL_asks_255 hl (by decide) rfl (fun ls hl => ?_)
      refine lv_sipush (v := (-20002)) hx hb dL_asks_257 (by decide) ?_
      refine W.widen (k := 2) (n := 12) (by omega) (by omega) ?_
      exact W.iret (v := (-20002)) hx hb hr (fun t ht hW => ⟨⟨(-20002), (ad_2, o_3, ()), rfl, ⟨hw, had_2⟩, ⟨P_at ht hP, hD⟩⟩, hS.F ht⟩) hS.2.2 dL_asks_260
    · refine vx_catch (own := RL) (name := "java/lang/IllegalArgumentException") (E := "java/lang/IllegalArgumentException") hown [⟨0, 100, 249, 82⟩, ⟨101, 111, 249, 82⟩, ⟨112, 122, 249, 82⟩, ⟨123, 129, 249, 82⟩, ⟨130, 138, 249, 82⟩, ⟨139, 145, 249, 82⟩, ⟨146, 154, 249, 82⟩, ⟨155, 161, 249, 82⟩, ⟨162, 168, 249, 82⟩, ⟨169, 174, 249, 82⟩, ⟨175, 179, 249, 82⟩, ⟨180, 185, 249, 82⟩, ⟨186, 195, 249, 82⟩, ⟨196, 202, 249, 82⟩, ⟨203, 209, 249, 82⟩, ⟨210, 216, 249, 82⟩, ⟨217, 221, 249, 82⟩, ⟨222, 228, 249, 82⟩, ⟨229, 239, 249, 82⟩, ⟨240, 248, 249, 82⟩, ⟨0, 100, 255, 84⟩, ⟨101, 111, 255, 84⟩, ⟨112, 122, 255, 84⟩, ⟨123, 129, 255, 84⟩, ⟨130, 138, 255, 84⟩, ⟨139, 145, 255, 84⟩, ⟨146, 154, 255, 84⟩, ⟨155, 161, 255, 84⟩, ⟨162, 168, 255, 84⟩, ⟨169, 174, 255, 84⟩, ⟨175, 179, 255, 84⟩, ⟨180, 185, 255, 84⟩, ⟨186, 195, 255, 84⟩, ⟨196, 202, 255, 84⟩, ⟨203, 209, 255, 84⟩, ⟨210, 216, 255, 84⟩, ⟨217, 221, 255, 84⟩, ⟨222, 228, 255, 84⟩, ⟨229, 239, 255, 84⟩, ⟨240, 248, 255, 84⟩, ⟨0, 100, 261, 86⟩, ⟨101, 111, 261, 86⟩, ⟨112, 122, 261, 86⟩, ⟨123, 129, 261, 86⟩, ⟨130, 138, 261, 86⟩] ⟨139, 145, 261, 86⟩ [⟨146, 154, 261, 86⟩, ⟨155, 161, 261, 86⟩, ⟨162, 168, 261, 86⟩, ⟨169, 174, 261, 86⟩, ⟨175, 179, 261, 86⟩, ⟨180, 185, 261, 86⟩, ⟨186, 195, 261, 86⟩, ⟨196, 202, 261, 86⟩, ⟨203, 209, 261, 86⟩, ⟨210, 216, 261, 86⟩, ⟨217, 221, 261, 86⟩, ⟨222, 228, 261, 86⟩, ⟨229, 239, 261, 86⟩, ⟨240, 248, 261, 86⟩, ⟨0, 100, 267, 88⟩, ⟨101, 111, 267, 88⟩, ⟨112, 122, 267, 88⟩, ⟨123, 129, 267, 88⟩, ⟨130, 138, 267, 88⟩, ⟨139, 145, 267, 88⟩, ⟨146, 154, 267, 88⟩, ⟨155, 161, 267, 88⟩, ⟨162, 168, 267, 88⟩, ⟨169, 174, 267, 88⟩, ⟨175, 179, 267, 88⟩, ⟨180, 185, 267, 88⟩, ⟨186, 195, 267, 88⟩, ⟨196, 202, 267, 88⟩, ⟨203, 209, 267, 88⟩, ⟨210, 216, 267, 88⟩, ⟨217, 221, 267, 88⟩, ⟨222, 228, 267, 88⟩, ⟨229, 239, 267, 88⟩, ⟨240, 248, 267, 88⟩] (by rw [hTab]; rfl) (fun z hz => (List.mem_cons.mp hz).elim (fun q => by subst q; exact Or.inl (by decide)) (fun hz => (List.mem_cons.mp hz).elim (fun q => by subst q; exact Or.inl (by decide)) (fun hz => (List.mem_cons.mp hz).elim (fun q => by subst q; exact Or.inl (by decide)) (fun hz => (List.mem_cons.mp hz).elim (fun q => by subst q; exact Or.inl (by decide)) (fun hz => (List.mem_cons.mp hz).elim (fun q => by subst q; exact Or.inl (by decide)) (fun hz => (List.mem_cons.mp hz).elim (fun q => by subst q; exact Or.inr ⟨by decide, _, hxl82, nc_1 hG⟩) (fun hz => (List.mem_cons.mp hz).elim (fun q => by subst q; exact Or.inl (by decide)) (fun hz => (List.mem_cons.mp hz).elim (fun q => by subst q; exact Or.inl (by decide)) (fun hz => (List.mem_cons.mp hz).elim (fun q => by subst q; exact Or.inl (by decide)) (fun hz => (List.mem_cons.mp hz).elim (fun q => by subst q; exact Or.inl (by decide)) (fun hz => (List.mem_cons.mp hz).elim (fun q => by subst q; exact Or.inl (by decide)) (fun hz => (List.mem_cons.mp hz).elim (fun q => by subst q; exact Or.inl (by decide)) (fun hz => (List.mem_cons.mp hz).elim (fun q => by subst q; exact Or.inl (by decide)) (fun hz => (List.mem_cons.mp hz).elim (fun q => by subst q; exact Or.inl (by decide)) (fun hz => (List.mem_cons.mp hz).elim (fun q => by subst q; exact Or.inl (by decide)) (fun hz => (List.mem_cons.mp hz).elim (fun q => by subst q; exact Or.inl (by decide)) (fun hz => (List.mem_cons.mp hz).elim (fun q => by subst q; exact Or.inl (by decide)) (fun hz => (List.mem_cons.mp hz).elim (fun q => by subst q; exact Or.inl (by decide)) (fun hz => (List.mem_cons.mp hz).elim (fun q => by subst q; exact Or.inl (by decide)) (fun hz => (List.mem_cons.mp hz).elim (fun q => by subst q; exact Or.inl (by decide)) (fun hz => (List.mem_cons.mp hz).elim (fun q => by subst q; exact Or.inl (by decide)) (fun hz => (List.mem_cons.mp hz).elim (fun q => by subst q; exact Or.inl (by decide)) (fun hz => (List.mem_cons.mp hz).elim (fun q => by subst q; exact Or.inl (by decide)) (fun hz => (List.mem_cons.mp hz).elim (fun q => by subst q; exact Or.inl (by decide)) (fun hz => (List.mem_cons.mp hz).elim (fun q => by subst q; exact Or.inl (by decide)) (fun hz => (List.mem_cons.mp hz).elim (fun q => by subst q; exact Or.inr ⟨by decide, _, hxl84, nc_2 hG⟩) (fun hz => (List.mem_cons.mp hz).elim (fun q => by subst q; exact Or.inl (by decide)) (fun hz => (List.mem_cons.mp hz).elim (fun q => by subst q; exact Or.inl (by decide)) (fun hz => (List.mem_cons.mp hz).elim (fun q => by subst q; exact Or.inl (by decide)) (fun hz => (List.mem_cons.mp hz).elim (fun q => by subst q; exact Or.inl (by decide)) (fun hz => (List.mem_cons.mp hz).elim (fun q => by subst q; exact Or.inl (by decide)) (fun hz => (List.mem_cons.mp hz).elim (fun q => by subst q; exact Or.inl (by decide)) (fun hz => (List.mem_cons.mp hz).elim (fun q => by subst q; exact Or.inl (by decide)) (fun hz => (List.mem_cons.mp hz).elim (fun q => by subst q; exact Or.inl (by decide)) (fun hz => (List.mem_cons.mp hz).elim (fun q => by subst q; exact Or.inl (by decide)) (fun hz => (List.mem_cons.mp hz).elim (fun q => by subst q; exact Or.inl (by decide)) (fun hz => (List.mem_cons.mp hz).elim (fun q => by subst q; exact Or.inl (by decide)) (fun hz => (List.mem_cons.mp hz).elim (fun q => by subst q; exact Or.inl (by decide)) (fun hz => (List.mem_cons.mp hz).elim (fun q => by subst q; exact Or.inl (by decide)) (fun hz => (List.mem_cons.mp hz).elim (fun q => by subst q; exact Or.inl (by decide)) (fun hz => (List.mem_cons.mp hz).elim (fun q => by subst q; exact Or.inl (by decide)) (fun hz => (List.mem_cons.mp hz).elim (fun q => by subst q; exact Or.inl (by decide)) (fun hz => (List.mem_cons.mp hz).elim (fun q => by subst q; exact Or.inl (by decide)) (fun hz => (List.mem_cons.mp hz).elim (fun q => by subst q; exact Or.inl (by decide)) (fun hz => (List.mem_cons.mp hz).elim (fun q => by subst q; exact Or.inl (by decide)) (fun hz => absurd hz List.not_mem_nil)))))))))))))))))))))))))))))))))))))))))))))) (by decide) (by decide) hxl86 (xc_1 hG) hce hcv hcl ?_
      have hS := hS9
      have ht_1 := ht
      refine lv_astore (lv' := [(5, .ref q9), (0, .ref t_p_), (1, .int 5), (2, .int a_), (3, .int b_), (4, .int c_)]) hx hb dL_asks_261 hl (by decide) rfl (fun ls hl => ?_)
      refine lv_sipush (v := (-20003)) hx hb dL_asks_263 (by decide) ?_
      refine W.widen (k := 2) (n := 12) (by omega) (by omega) ?_
      exact W.iret (v := (-20003)) hx hb hr (fun t ht hW => ⟨⟨(-20003), (ad_2, o_3, ()), rfl, ⟨hw, had_2⟩, ⟨P_at ht hP, hD⟩⟩, hS.F ht⟩) hS.2.2 dL_asks_266
    · refine vx_catch (own := RL) (name := "java/lang/IllegalStateException") (E := "java/lang/IllegalStateException") hown [⟨0, 100, 249, 82⟩, ⟨101, 111, 249, 82⟩, ⟨112, 122, 249, 82⟩, ⟨123, 129, 249, 82⟩, ⟨130, 138, 249, 82⟩, ⟨139, 145, 249, 82⟩, ⟨146, 154, 249, 82⟩, ⟨155, 161, 249, 82⟩, ⟨162, 168, 249, 82⟩, ⟨169, 174, 249, 82⟩, ⟨175, 179, 249, 82⟩, ⟨180, 185, 249, 82⟩, ⟨186, 195, 249, 82⟩, ⟨196, 202, 249, 82⟩, ⟨203, 209, 249, 82⟩, ⟨210, 216, 249, 82⟩, ⟨217, 221, 249, 82⟩, ⟨222, 228, 249, 82⟩, ⟨229, 239, 249, 82⟩, ⟨240, 248, 249, 82⟩, ⟨0, 100, 255, 84⟩, ⟨101, 111, 255, 84⟩, ⟨112, 122, 255, 84⟩, ⟨123, 129, 255, 84⟩, ⟨130, 138, 255, 84⟩, ⟨139, 145, 255, 84⟩, ⟨146, 154, 255, 84⟩, ⟨155, 161, 255, 84⟩, ⟨162, 168, 255, 84⟩, ⟨169, 174, 255, 84⟩, ⟨175, 179, 255, 84⟩, ⟨180, 185, 255, 84⟩, ⟨186, 195, 255, 84⟩, ⟨196, 202, 255, 84⟩, ⟨203, 209, 255, 84⟩, ⟨210, 216, 255, 84⟩, ⟨217, 221, 255, 84⟩, ⟨222, 228, 255, 84⟩, ⟨229, 239, 255, 84⟩, ⟨240, 248, 255, 84⟩, ⟨0, 100, 261, 86⟩, ⟨101, 111, 261, 86⟩, ⟨112, 122, 261, 86⟩, ⟨123, 129, 261, 86⟩, ⟨130, 138, 261, 86⟩, ⟨139, 145, 261, 86⟩, ⟨146, 154, 261, 86⟩, ⟨155, 161, 261, 86⟩, ⟨162, 168, 261, 86⟩, ⟨169, 174, 261, 86⟩, ⟨175, 179, 261, 86⟩, ⟨180, 185, 261, 86⟩, ⟨186, 195, 261, 86⟩, ⟨196, 202, 261, 86⟩, ⟨203, 209, 261, 86⟩, ⟨210, 216, 261, 86⟩, ⟨217, 221, 261, 86⟩, ⟨222, 228, 261, 86⟩, ⟨229, 239, 261, 86⟩, ⟨240, 248, 261, 86⟩, ⟨0, 100, 267, 88⟩, ⟨101, 111, 267, 88⟩, ⟨112, 122, 267, 88⟩, ⟨123, 129, 267, 88⟩, ⟨130, 138, 267, 88⟩] ⟨139, 145, 267, 88⟩ [⟨146, 154, 267, 88⟩, ⟨155, 161, 267, 88⟩, ⟨162, 168, 267, 88⟩, ⟨169, 174, 267, 88⟩, ⟨175, 179, 267, 88⟩, ⟨180, 185, 267, 88⟩, ⟨186, 195, 267, 88⟩, ⟨196, 202, 267, 88⟩, ⟨203, 209, 267, 88⟩, ⟨210, 216, 267, 88⟩, ⟨217, 221, 267, 88⟩, ⟨222, 228, 267, 88⟩, ⟨229, 239, 267, 88⟩, ⟨240, 248, 267, 88⟩] (by rw [hTab]; rfl) (fun z hz => (List.mem_cons.mp hz).elim (fun q => by subst q; exact Or.inl (by decide)) (fun hz => (List.mem_cons.mp hz).elim (fun q => by subst q; exact Or.inl (by decide)) (fun hz => (List.mem_cons.mp hz).elim (fun q => by subst q; exact Or.inl (by decide)) (fun hz => (List.mem_cons.mp hz).elim (fun q => by subst q; exact Or.inl (by decide)) (fun hz => (List.mem_cons.mp hz).elim (fun q => by subst q; exact Or.inl (by decide)) (fun hz => (List.mem_cons.mp hz).elim (fun q => by subst q; exact Or.inr ⟨by decide, _, hxl82, nc_3 hG⟩) (fun hz => (List.mem_cons.mp hz).elim (fun q => by subst q; exact Or.inl (by decide)) (fun hz => (List.mem_cons.mp hz).elim (fun q => by subst q; exact Or.inl (by decide)) (fun hz => (List.mem_cons.mp hz).elim (fun q => by subst q; exact Or.inl (by decide)) (fun hz => (List.mem_cons.mp hz).elim (fun q => by subst q; exact Or.inl (by decide)) (fun hz => (List.mem_cons.mp hz).elim (fun q => by subst q; exact Or.inl (by decide)) (fun hz => (List.mem_cons.mp hz).elim (fun q => by subst q; exact Or.inl (by decide)) (fun hz => (List.mem_cons.mp hz).elim (fun q => by subst q; exact Or.inl (by decide)) (fun hz => (List.mem_cons.mp hz).elim (fun q => by subst q; exact Or.inl (by decide)) (fun hz => (List.mem_cons.mp hz).elim (fun q => by subst q; exact Or.inl (by decide)) (fun hz => (List.mem_cons.mp hz).elim (fun q => by subst q; exact Or.inl (by decide)) (fun hz => (List.mem_cons.mp hz).elim (fun q => by subst q; exact Or.inl (by decide)) (fun hz => (List.mem_cons.mp hz).elim (fun q => by subst q; exact Or.inl (by decide)) (fun hz => (List.mem_cons.mp hz).elim (fun q => by subst q; exact Or.inl (by decide)) (fun hz => (List.mem_cons.mp hz).elim (fun q => by subst q; exact Or.inl (by decide)) (fun hz => (List.mem_cons.mp hz).elim (fun q => by subst q; exact Or.inl (by decide)) (fun hz => (List.mem_cons.mp hz).elim (fun q => by subst q; exact Or.inl (by decide)) (fun hz => (List.mem_cons.mp hz).elim (fun q => by subst q; exact Or.inl (by decide)) (fun hz => (List.mem_cons.mp hz).elim (fun q => by subst q; exact Or.inl (by decide)) (fun hz => (List.mem_cons.mp hz).elim (fun q => by subst q; exact Or.inl (by decide)) (fun hz => (List.mem_cons.mp hz).elim (fun q => by subst q; exact Or.inr ⟨by decide, _, hxl84, nc_4 hG⟩) (fun hz => (List.mem_cons.mp hz).elim (fun q => by subst q; exact Or.inl (by decide)) (fun hz => (List.mem_cons.mp hz).elim (fun q => by subst q; exact Or.inl (by decide)) (fun hz => (List.mem_cons.mp hz).elim (fun q => by subst q; exact Or.inl (by decide)) (fun hz => (List.mem_cons.mp hz).elim (fun q => by subst q; exact Or.inl (by decide)) (fun hz => (List.mem_cons.mp hz).elim (fun q => by subst q; exact Or.inl (by decide)) (fun hz => (List.mem_cons.mp hz).elim (fun q => by subst q; exact Or.inl (by decide)) (fun hz => (List.mem_cons.mp hz).elim (fun q => by subst q; exact Or.inl (by decide)) (fun hz => (List.mem_cons.mp hz).elim (fun q => by subst q; exact Or.inl (by decide)) (fun hz => (List.mem_cons.mp hz).elim (fun q => by subst q; exact Or.inl (by decide)) (fun hz => (List.mem_cons.mp hz).elim (fun q => by subst q; exact Or.inl (by decide)) (fun hz => (List.mem_cons.mp hz).elim (fun q => by subst q; exact Or.inl (by decide)) (fun hz => (List.mem_cons.mp hz).elim (fun q => by subst q; exact Or.inl (by decide)) (fun hz => (List.mem_cons.mp hz).elim (fun q => by subst q; exact Or.inl (by decide)) (fun hz => (List.mem_cons.mp hz).elim (fun q => by subst q; exact Or.inl (by decide)) (fun hz => (List.mem_cons.mp hz).elim (fun q => by subst q; exact Or.inl (by decide)) (fun hz => (List.mem_cons.mp hz).elim (fun q => by subst q; exact Or.inl (by decide)) (fun hz => (List.mem_cons.mp hz).elim (fun q => by subst q; exact Or.inl (by decide)) (fun hz => (List.mem_cons.mp hz).elim (fun q => by subst q; exact Or.inl (by decide)) (fun hz => (List.mem_cons.mp hz).elim (fun q => by subst q; exact Or.inl (by decide)) (fun hz => (List.mem_cons.mp hz).elim (fun q => by subst q; exact Or.inr ⟨by decide, _, hxl86, nc_5 hG⟩) (fun hz => (List.mem_cons.mp hz).elim (fun q => by subst q; exact Or.inl (by decide)) (fun hz => (List.mem_cons.mp hz).elim (fun q => by subst q; exact Or.inl (by decide)) (fun hz => (List.mem_cons.mp hz).elim (fun q => by subst q; exact Or.inl (by decide)) (fun hz => (List.mem_cons.mp hz).elim (fun q => by subst q; exact Or.inl (by decide)) (fun hz => (List.mem_cons.mp hz).elim (fun q => by subst q; exact Or.inl (by decide)) (fun hz => (List.mem_cons.mp hz).elim (fun q => by subst q; exact Or.inl (by decide)) (fun hz => (List.mem_cons.mp hz).elim (fun q => by subst q; exact Or.inl (by decide)) (fun hz => (List.mem_cons.mp hz).elim (fun q => by subst q; exact Or.inl (by decide)) (fun hz => (List.mem_cons.mp hz).elim (fun q => by subst q; exact Or.inl (by decide)) (fun hz => (List.mem_cons.mp hz).elim (fun q => by subst q; exact Or.inl (by decide)) (fun hz => (List.mem_cons.mp hz).elim (fun q => by subst q; exact Or.inl (by decide)) (fun hz => (List.mem_cons.mp hz).elim (fun q => by subst q; exact Or.inl (by decide)) (fun hz => (List.mem_cons.mp hz).elim (fun q => by subst q; exact Or.inl (by decide)) (fun hz => (List.mem_cons.mp hz).elim (fun q => by subst q; exact Or.inl (by decide)) (fun hz => (List.mem_cons.mp hz).elim (fun q => by subst q; exact Or.inl (by decide)) (fun hz => (List.mem_cons.mp hz).elim (fun q => by subst q; exact Or.inl (by decide)) (fun hz => (List.mem_cons.mp hz).elim (fun q => by subst q; exact Or.inl (by decide)) (fun hz => (List.mem_cons.mp hz).elim (fun q => by subst q; exact Or.inl (by decide)) (fun hz => (List.mem_cons.mp hz).elim (fun q => by subst q; exact Or.inl (by decide)) (fun hz => absurd hz List.not_mem_nil)))))))))))))))))))))))))))))))))))))))))))))))))))))))))))))))))) (by decide) (by decide) hxl88 (xc_2 hG) hce hcv hcl ?_
      have hS := hS9
      have ht_1 := ht
      refine lv_astore (lv' := [(5, .ref q9), (0, .ref t_p_), (1, .int 5), (2, .int a_), (3, .int b_), (4, .int c_)]) hx hb dL_asks_267 hl (by decide) rfl (fun ls hl => ?_)
      refine lv_sipush (v := (-20004)) hx hb dL_asks_269 (by decide) ?_
      refine W.widen (k := 2) (n := 12) (by omega) (by omega) ?_
      exact W.iret (v := (-20004)) hx hb hr (fun t ht hW => ⟨⟨(-20004), (ad_2, o_3, ()), rfl, ⟨hw, had_2⟩, ⟨P_at ht hP, hD⟩⟩, hS.F ht⟩) hS.2.2 dL_asks_272
  obtain ⟨ad_4, o_5⟩ := u_1
  obtain ⟨hw, had_4⟩ := hw_1
  rw [ht_1] at hB_1
  obtain ⟨hP1, hD1⟩ := hB_1
  obtain ⟨hP, hD⟩ := join_r hPs hDs hk_1 hFc hP1 hD1
  obtain ⟨hP, hD⟩ := seg_join [] [offS ad_4 tp_p_ hd_p_ tf_p_ cf_p_ g o_5] [offS ad_4 tp_p_ hd_p_ tf_p_ cf_p_ g o_5] 1 [0] rfl rfl (by decide) hP hD
  have hP : va_P (dC, dI) vwCl (offS ad_4 tp_p_ hd_p_ tf_p_ cf_p_ g o_5) H_1 := hP
  have hD : va_D A (offS ad_4 tp_p_ hd_p_ tf_p_ cf_p_ g o_5) := hD
  refine W.widen (k := 2) (n := 12) (by omega) (by omega) ?_
  refine W.widen (k := 2) (n := 12) (by omega) (by omega) ?_
  exact W.iret (v := r_1) hx hb hr (fun t ht hW => ⟨⟨r_1, (ad_4, o_5, ()), rfl, ⟨hw, had_4⟩, ⟨P_at ht hP, hD⟩⟩, hS.F ht⟩) hS.2.2 dL_asks_145
