theorem dX0_has_0 : decode cX0_has 0 = .ok (.iload_n 1, 1) := by decide +kernel
theorem dX0_has_1 : decode cX0_has 1 = .ok (.ifCond .lt 15, 3) := by decide +kernel
theorem dX0_has_16 : decode cX0_has 16 = .ok (.iconst 0, 1) := by decide +kernel
theorem dX0_has_17 : decode cX0_has 17 = .ok (.ireturn, 1) := by decide +kernel
theorem dX0_has_4 : decode cX0_has 4 = .ok (.iload_n 1, 1) := by decide +kernel
theorem dX0_has_5 : decode cX0_has 5 = .ok (.aload_n 0, 1) := by decide +kernel
theorem dX0_has_6 : decode cX0_has 6 = .ok (.getfield 18, 3) := by decide +kernel
theorem dX0_has_9 : decode cX0_has 9 = .ok (.if_icmp .ge 7, 3) := by decide +kernel
theorem dX0_has_12 : decode cX0_has 12 = .ok (.iconst 1, 1) := by decide +kernel
theorem dX0_has_13 : decode cX0_has 13 = .ok (.goto 4, 3) := by decide +kernel

set_option maxHeartbeats 8000000 in
set_option maxRecDepth 100000 in
theorem c_X0_has (l : Launch) (dC : Nat → ClassId) (dI : Nat → Nat → Nat) (g : Nat → ClassId) (Wd : va_W) (a_this : Nat) (a_allKeys : Nat) (a_allMarks : Nat) (count : Int32) (record : Int32) (k_this : Nat) (w_this : Wd[k_this]? = some (a_this, .inr (2, [.ref a_allKeys, .ref a_allMarks, .int count]))) (Q : Bool → Prop) (hw : wp_X0_has count record Q) (sz : Nat) : Met l yX0_has wqX0_has ({ frames := 0, cells := 0, slots := 0, locals := 0 }) (va_Pc [.ref a_this, .int record] (PG (dC, dI) g Wd sz)) (va_Qi (fun (r : Int32) (u : Unit) => ∃ b : Bool, r = b2i b ∧ Q b) (fun (u : Unit) t9 => va_P (dC, dI) vwCl Wd t9.heap) (va_A Wd sz)) 0 0 (va_A Wd sz) := by
  refine Met.ofW (cc := cX0_has) (maxL := 2) (ret := (some .boolean)) (by decide) rfl ?_
  intro p e s m args below meth c s₁ B hml hv
  obtain ⟨rfl, hsz, hP, hK, hD0, hG⟩ := hv
  have hx := B.exec
  have hb := B.bytes
  have hr := B.returns
  have hts := atoms_spec (ws := wqX0_has) B.pre
  have hown : s.vm.findClass RX0 = some m.cls := findClass_of_methodNamed B.named
  have hlocks := B.notSynchronized
  subst hsz
  have hD := hD0.self (sz := s.heap.size)
  generalize hAe : va_A Wd s.heap.size = A at hD hG ⊢
  have hA : ∀ q : Nat, s.heap.size ≤ q → A q := fun q h => by rw [← hAe]; exact Or.inr h
  have hS : va_S A s.heap s.heap [] := va_S.rf
  have hl := lv_entry ([.ref a_this, .int record]) (n := 2) (Nat.le_of_ble_eq_true rfl)
  rw [lg_entry_eq]
  generalize (lg_sl ([.ref a_this, .int record]) ++ List.replicate (2 - (lg_sl ([.ref a_this, .int record])).length) Slot.unset).toArray = ls at hl ⊢
  have hl : lv_has ls 2 [(0, .ref a_this), (1, .int record)] := hl
  unfold wp_X0_has at hw
  have hf18 := hts (Cond.fieldLink RX0 18 "RunmergeOffice$Book" "count" "I") (aw_l aw_1_48)
  have hiX0 : ∀ w ∈ u_ws RX0 TX0 3, w ∈ wqX0_has := fun w h => aw_l (aw_wsX00 w h)
  refine lv_iload_n hx hb dX0_has_0 rfl (lv_at hl 1 rfl) ?_
  refine lv_if_lt (tgt := 16) hx hb dX0_has_1 (by decide) (fun c_1 => ?_) (fun c_1 => ?_)
  · have hw := hw.1 c_1
    refine lv_iconst (v := 0) hx hb dX0_has_16 (by decide) ?_
    exact W.zret (v := 0) hx hb hr rfl (fun t ht hW => ⟨⟨_, (), rfl, ⟨false, rfl, hw⟩, P_at ht hP⟩, hS.F ht⟩) hS.2.2 dX0_has_17
  · have hw := hw.2 c_1
    refine lv_iload_n hx hb dX0_has_4 rfl (lv_at hl 1 rfl) ?_
    refine lv_aload_n hx hb dX0_has_5 rfl (lv_at hl 0 rfl) ?_
    refine va_get (D := (dC, dI)) (ci := 2) (v := .int count) (C := RX0) (T := TX0) (N := 3) hx hb hts hiX0 hown hK hP k_this w_this rfl 2 (by decide) hf18 (fun _ h9 => h9) rfl dX0_has_6 ?_
    refine lv_icmp_ge (tgt := 16) hx hb dX0_has_9 (by decide) (fun c_2 => ?_) (fun c_2 => ?_)
    · have hw := hw.1 c_2
      refine lv_iconst (v := 0) hx hb dX0_has_16 (by decide) ?_
      exact W.zret (v := 0) hx hb hr rfl (fun t ht hW => ⟨⟨_, (), rfl, ⟨false, rfl, hw⟩, P_at ht hP⟩, hS.F ht⟩) hS.2.2 dX0_has_17
    · have hw := hw.2 c_2
      refine lv_iconst (v := 1) hx hb dX0_has_12 (by decide) ?_
      refine lv_goto (tgt := 17) hx hb dX0_has_13 (by decide) ?_
      exact W.zret (v := 1) hx hb hr rfl (fun t ht hW => ⟨⟨_, (), rfl, ⟨true, rfl, hw⟩, P_at ht hP⟩, hS.F ht⟩) hS.2.2 dX0_has_17
theorem dX0_add_0 : decode cX0_add 0 = .ok (.aload_n 0, 1) := by decide +kernel
theorem dX0_add_1 : decode cX0_add 1 = .ok (.getfield 18, 3) := by decide +kernel
theorem dX0_add_4 : decode cX0_add 4 = .ok (.istore_n 3, 1) := by decide +kernel
theorem dX0_add_5 : decode cX0_add 5 = .ok (.iload_n 3, 1) := by decide +kernel
theorem dX0_add_6 : decode cX0_add 6 = .ok (.ifCond .lt 10, 3) := by decide +kernel
theorem dX0_add_16 : decode cX0_add 16 = .ok (.iconst (-1), 1) := by decide +kernel
theorem dX0_add_17 : decode cX0_add 17 = .ok (.ireturn, 1) := by decide +kernel
theorem dX0_add_9 : decode cX0_add 9 = .ok (.iload_n 3, 1) := by decide +kernel
theorem dX0_add_10 : decode cX0_add 10 = .ok (.sipush 200, 3) := by decide +kernel
theorem dX0_add_13 : decode cX0_add 13 = .ok (.if_icmp .lt 5, 3) := by decide +kernel
theorem dX0_add_18 : decode cX0_add 18 = .ok (.aload_n 0, 1) := by decide +kernel
theorem dX0_add_19 : decode cX0_add 19 = .ok (.getfield 9, 3) := by decide +kernel
theorem dX0_add_22 : decode cX0_add 22 = .ok (.iload_n 3, 1) := by decide +kernel
theorem dX0_add_23 : decode cX0_add 23 = .ok (.iload_n 1, 1) := by decide +kernel
theorem dX0_add_24 : decode cX0_add 24 = .ok (.iastore, 1) := by decide +kernel
theorem dX0_add_25 : decode cX0_add 25 = .ok (.aload_n 0, 1) := by decide +kernel
theorem dX0_add_26 : decode cX0_add 26 = .ok (.getfield 15, 3) := by decide +kernel
theorem dX0_add_29 : decode cX0_add 29 = .ok (.iload_n 3, 1) := by decide +kernel
theorem dX0_add_30 : decode cX0_add 30 = .ok (.iload_n 2, 1) := by decide +kernel
theorem dX0_add_31 : decode cX0_add 31 = .ok (.iastore, 1) := by decide +kernel
theorem dX0_add_32 : decode cX0_add 32 = .ok (.aload_n 0, 1) := by decide +kernel
theorem dX0_add_33 : decode cX0_add 33 = .ok (.iload_n 3, 1) := by decide +kernel
theorem dX0_add_34 : decode cX0_add 34 = .ok (.iconst 1, 1) := by decide +kernel
theorem dX0_add_35 : decode cX0_add 35 = .ok (.iadd, 1) := by decide +kernel
theorem dX0_add_36 : decode cX0_add 36 = .ok (.putfield 18, 3) := by decide +kernel
theorem dX0_add_39 : decode cX0_add 39 = .ok (.iload_n 3, 1) := by decide +kernel
theorem dX0_add_40 : decode cX0_add 40 = .ok (.ireturn, 1) := by decide +kernel
abbrev Wa_X0_add (g : Nat → ClassId) (a_this : Nat) (a_allKeys : Nat) (a_allMarks : Nat) (count : Int32) (allKeys : Nat → Int32) (allMarks : Nat → Int32) : va_W := [(a_this, .inr (2, [.ref a_allKeys, .ref a_allMarks, .int count])), (a_allKeys, .inl (g 0, 200, .inl allKeys)), (a_allMarks, .inl (g 0, 200, .inl allMarks))]
abbrev Wb_X0_add (g : Nat → ClassId) (a_this : Nat) (a_allKeys : Nat) (a_allMarks : Nat) (u : Int32 × (Nat → Int32) × (Nat → Int32) × Unit) : va_W := [(a_this, .inr (2, [.ref a_allKeys, .ref a_allMarks, .int u.1])), (a_allKeys, .inl (g 0, 200, .inl u.2.1)), (a_allMarks, .inl (g 0, 200, .inl u.2.2.1))]
set_option maxHeartbeats 8000000 in
set_option maxRecDepth 100000 in
theorem c_X0_add (l : Launch) (dC : Nat → ClassId) (dI : Nat → Nat → Nat) (g : Nat → ClassId) (a_this : Nat) (a_allKeys : Nat) (a_allMarks : Nat) (count : Int32) (allKeys : Nat → Int32) (allMarks : Nat → Int32) (key : Int32) (mark : Int32) (Q : Int32 → Int32 → (Nat → Int32) → (Nat → Int32) → Prop) (hw : wp_X0_add count allKeys allMarks key mark Q) (sz : Nat) : Met l yX0_add wqX0_add ({ frames := 0, cells := 0, slots := 0, locals := 0 }) (va_Pc [.ref a_this, .int key, .int mark] (PG (dC, dI) g (Wa_X0_add g a_this a_allKeys a_allMarks count allKeys allMarks) sz)) (va_Qi (fun (r : Int32) (u : Int32 × (Nat → Int32) × (Nat → Int32) × Unit) => Q r u.1 u.2.1 u.2.2.1) (fun (u : Int32 × (Nat → Int32) × (Nat → Int32) × Unit) t9 => va_P (dC, dI) vwCl (Wb_X0_add g a_this a_allKeys a_allMarks u) t9.heap ∧ va_D (va_A (Wa_X0_add g a_this a_allKeys a_allMarks count allKeys allMarks) sz) (Wb_X0_add g a_this a_allKeys a_allMarks u)) (va_A (Wa_X0_add g a_this a_allKeys a_allMarks count allKeys allMarks) sz)) 0 0 (va_A (Wa_X0_add g a_this a_allKeys a_allMarks count allKeys allMarks) sz) := by
  refine Met.ofW (cc := cX0_add) (maxL := 4) (ret := (some .int)) (by decide) rfl ?_
  intro p e s m args below meth c s₁ B hml hv
  obtain ⟨rfl, hsz, hP, hK, hD0, hG⟩ := hv
  have hx := B.exec
  have hb := B.bytes
  have hr := B.returns
  have hts := atoms_spec (ws := wqX0_add) B.pre
  have hown : s.vm.findClass RX0 = some m.cls := findClass_of_methodNamed B.named
  have hlocks := B.notSynchronized
  subst hsz
  have hD := hD0.self (sz := s.heap.size)
  generalize hAe : va_A (Wa_X0_add g a_this a_allKeys a_allMarks count allKeys allMarks) s.heap.size = A at hD hG ⊢
  have hA : ∀ q : Nat, s.heap.size ≤ q → A q := fun q h => by rw [← hAe]; exact Or.inr h
  have hS : va_S A s.heap s.heap [] := va_S.rf
  have hl := lv_entry ([.ref a_this, .int key, .int mark]) (n := 4) (Nat.le_of_ble_eq_true rfl)
  rw [lg_entry_eq]
  generalize (lg_sl ([.ref a_this, .int key, .int mark]) ++ List.replicate (4 - (lg_sl ([.ref a_this, .int key, .int mark])).length) Slot.unset).toArray = ls at hl ⊢
  have hl : lv_has ls 4 [(0, .ref a_this), (1, .int key), (2, .int mark)] := hl
  unfold wp_X0_add at hw
  have hf18 := hts (Cond.fieldLink RX0 18 "RunmergeOffice$Book" "count" "I") (aw_l aw_1_48)
  have hiX0 : ∀ w ∈ u_ws RX0 TX0 3, w ∈ wqX0_add := fun w h => aw_l (aw_wsX00 w h)
  have hf9 := hts (Cond.fieldLink RX0 9 "RunmergeOffice$Book" "allKeys" "[I") (aw_l aw_1_46)
  have hf15 := hts (Cond.fieldLink RX0 15 "RunmergeOffice$Book" "allMarks" "[I") (aw_l aw_1_47)
  refine lv_aload_n hx hb dX0_add_0 rfl (lv_at hl 0 rfl) ?_
  refine va_get (D := (dC, dI)) (ci := 2) (v := .int count) (C := RX0) (T := TX0) (N := 3) hx hb hts hiX0 hown hK hP 0 rfl rfl 2 (by decide) hf18 (fun _ h9 => h9) rfl dX0_add_1 ?_
  refine lv_istore_n (lv' := [(3, .int count), (0, .ref a_this), (1, .int key), (2, .int mark)]) hx hb dX0_add_4 rfl hl (by decide) rfl (fun ls hl => ?_)
  refine lv_iload_n hx hb dX0_add_5 rfl (lv_at hl 0 rfl) ?_
  refine lv_if_lt (tgt := 16) hx hb dX0_add_6 (by decide) (fun c_1 => ?_) (fun c_1 => ?_)
  · have hw := hw.1 c_1
    refine lv_iconst (v := (-1)) hx hb dX0_add_16 (by decide) ?_
    have hP9 := hP.sub (ws' := [(a_this, .inr (2, [.ref a_allKeys, .ref a_allMarks, .int count])), (a_allKeys, .inl (g 0, 200, .inl allKeys)), (a_allMarks, .inl (g 0, 200, .inl allMarks))]) [0, 1, 2] rfl
    have hD9 := hD.sub (ws' := [(a_this, .inr (2, [.ref a_allKeys, .ref a_allMarks, .int count])), (a_allKeys, .inl (g 0, 200, .inl allKeys)), (a_allMarks, .inl (g 0, 200, .inl allMarks))]) [0, 1, 2] (by decide) rfl
    exact W.iret (v := (-1)) hx hb hr (fun t ht hW => ⟨⟨(-1), (count, allKeys, allMarks, ()), rfl, hw, ⟨P_at ht hP9, hD9⟩⟩, hS.F ht⟩) hS.2.2 dX0_add_17
  · have hw := hw.2 c_1
    refine lv_iload_n hx hb dX0_add_9 rfl (lv_at hl 0 rfl) ?_
    refine lv_sipush (v := 200) hx hb dX0_add_10 (by decide) ?_
    refine lv_icmp_lt (tgt := 18) hx hb dX0_add_13 (by decide) (fun c_2 => ?_) (fun c_2 => ?_)
    · have hw := hw.1 c_2
      refine lv_aload_n hx hb dX0_add_18 rfl (lv_at hl 1 rfl) ?_
      refine va_get (D := (dC, dI)) (ci := 2) (v := .ref a_allKeys) (C := RX0) (T := TX0) (N := 3) hx hb hts hiX0 hown hK hP 0 rfl rfl 0 (by decide) hf9 (fun _ h9 => h9) rfl dX0_add_19 ?_
      refine lv_iload_n hx hb dX0_add_22 rfl (lv_at hl 0 rfl) ?_
      refine lv_iload_n hx hb dX0_add_23 rfl (lv_at hl 2 rfl) ?_
      refine va_iast hx hb hK hP hD hS 1 0 rfl rfl hw.1 dX0_add_24 (fun H_3 L_4 hP hD hS => ?_)
      have hw := hw.2
      have hP : va_P (dC, dI) vwCl [(a_this, .inr (2, [.ref a_allKeys, .ref a_allMarks, .int count])), (a_allKeys, .inl (g 0, 200, .inl (upd allKeys count.toNatClampNeg key))), (a_allMarks, .inl (g 0, 200, .inl allMarks))] H_3 := hP
      have hD : va_D A [(a_this, .inr (2, [.ref a_allKeys, .ref a_allMarks, .int count])), (a_allKeys, .inl (g 0, 200, .inl (upd allKeys count.toNatClampNeg key))), (a_allMarks, .inl (g 0, 200, .inl allMarks))] := hD
      refine lv_aload_n hx hb dX0_add_25 rfl (lv_at hl 1 rfl) ?_
      refine va_get (D := (dC, dI)) (ci := 2) (v := .ref a_allMarks) (C := RX0) (T := TX0) (N := 3) hx hb hts hiX0 hown hK hP 0 rfl rfl 1 (by decide) hf15 (fun _ h9 => h9) rfl dX0_add_26 ?_
      refine lv_iload_n hx hb dX0_add_29 rfl (lv_at hl 0 rfl) ?_
      refine lv_iload_n hx hb dX0_add_30 rfl (lv_at hl 3 rfl) ?_
      refine va_iast hx hb hK hP hD hS 2 0 rfl rfl hw.1 dX0_add_31 (fun H_5 L_6 hP hD hS => ?_)
      have hw := hw.2
      have hP : va_P (dC, dI) vwCl [(a_this, .inr (2, [.ref a_allKeys, .ref a_allMarks, .int count])), (a_allKeys, .inl (g 0, 200, .inl (upd allKeys count.toNatClampNeg key))), (a_allMarks, .inl (g 0, 200, .inl (upd allMarks count.toNatClampNeg mark)))] H_5 := hP
      have hD : va_D A [(a_this, .inr (2, [.ref a_allKeys, .ref a_allMarks, .int count])), (a_allKeys, .inl (g 0, 200, .inl (upd allKeys count.toNatClampNeg key))), (a_allMarks, .inl (g 0, 200, .inl (upd allMarks count.toNatClampNeg mark)))] := hD
      refine lv_aload_n hx hb dX0_add_32 rfl (lv_at hl 1 rfl) ?_
      refine lv_iload_n hx hb dX0_add_33 rfl (lv_at hl 0 rfl) ?_
      refine lv_iconst (v := 1) hx hb dX0_add_34 (by decide) ?_
      refine lv_iadd hx hb dX0_add_35 ?_
      refine lv_topi (fun x_7 ex_7 => ?_)
      have hw := hw x_7 ex_7
      refine va_put (D := (dC, dI)) (ci := 2) (v := .int x_7) (ty := .int) (C := RX0) (T := TX0) (N := 3) hx hb hts hiX0 tyX0 tyX0_ok nmX0 hown hK hP hD hS 0 rfl rfl 2 (by decide) hf18 (fun _ h9 => h9) rfl (by decide +kernel) rfl rfl (Nat.le_of_ble_eq_true rfl) dX0_add_36 (fun H_8 L_9 hP hD hS => ?_)
      have hP : va_P (dC, dI) vwCl [(a_this, .inr (2, [.ref a_allKeys, .ref a_allMarks, .int x_7])), (a_allKeys, .inl (g 0, 200, .inl (upd allKeys count.toNatClampNeg key))), (a_allMarks, .inl (g 0, 200, .inl (upd allMarks count.toNatClampNeg mark)))] H_8 := hP
      have hD : va_D A [(a_this, .inr (2, [.ref a_allKeys, .ref a_allMarks, .int x_7])), (a_allKeys, .inl (g 0, 200, .inl (upd allKeys count.toNatClampNeg key))), (a_allMarks, .inl (g 0, 200, .inl (upd allMarks count.toNatClampNeg mark)))] := hD
      refine lv_iload_n hx hb dX0_add_39 rfl (lv_at hl 0 rfl) ?_
      have hP9 := hP.sub (ws' := [(a_this, .inr (2, [.ref a_allKeys, .ref a_allMarks, .int x_7])), (a_allKeys, .inl (g 0, 200, .inl (upd allKeys count.toNatClampNeg key))), (a_allMarks, .inl (g 0, 200, .inl (upd allMarks count.toNatClampNeg mark)))]) [0, 1, 2] rfl
      have hD9 := hD.sub (ws' := [(a_this, .inr (2, [.ref a_allKeys, .ref a_allMarks, .int x_7])), (a_allKeys, .inl (g 0, 200, .inl (upd allKeys count.toNatClampNeg key))), (a_allMarks, .inl (g 0, 200, .inl (upd allMarks count.toNatClampNeg mark)))]) [0, 1, 2] (by decide) rfl
      exact W.iret (v := count) hx hb hr (fun t ht hW => ⟨⟨count, (x_7, (upd allKeys count.toNatClampNeg key), (upd allMarks count.toNatClampNeg mark), ()), rfl, hw, ⟨P_at ht hP9, hD9⟩⟩, hS.F ht⟩) hS.2.2 dX0_add_40
    · have hw := hw.2 c_2
      refine lv_iconst (v := (-1)) hx hb dX0_add_16 (by decide) ?_
      have hP9 := hP.sub (ws' := [(a_this, .inr (2, [.ref a_allKeys, .ref a_allMarks, .int count])), (a_allKeys, .inl (g 0, 200, .inl allKeys)), (a_allMarks, .inl (g 0, 200, .inl allMarks))]) [0, 1, 2] rfl
      have hD9 := hD.sub (ws' := [(a_this, .inr (2, [.ref a_allKeys, .ref a_allMarks, .int count])), (a_allKeys, .inl (g 0, 200, .inl allKeys)), (a_allMarks, .inl (g 0, 200, .inl allMarks))]) [0, 1, 2] (by decide) rfl
      exact W.iret (v := (-1)) hx hb hr (fun t ht hW => ⟨⟨(-1), (count, allKeys, allMarks, ()), rfl, hw, ⟨P_at ht hP9, hD9⟩⟩, hS.F ht⟩) hS.2.2 dX0_add_17
theorem dX0_keyOf_0 : decode cX0_keyOf 0 = .ok (.iload_n 1, 1) := by decide +kernel
theorem dX0_keyOf_1 : decode cX0_keyOf 1 = .ok (.ifCond .lt 19, 3) := by decide +kernel
theorem dX0_keyOf_20 : decode cX0_keyOf 20 = .ok (.iconst 0, 1) := by decide +kernel
theorem dX0_keyOf_21 : decode cX0_keyOf 21 = .ok (.ireturn, 1) := by decide +kernel
theorem dX0_keyOf_4 : decode cX0_keyOf 4 = .ok (.iload_n 1, 1) := by decide +kernel
theorem dX0_keyOf_5 : decode cX0_keyOf 5 = .ok (.sipush 200, 3) := by decide +kernel
theorem dX0_keyOf_8 : decode cX0_keyOf 8 = .ok (.if_icmp .ge 12, 3) := by decide +kernel
theorem dX0_keyOf_11 : decode cX0_keyOf 11 = .ok (.aload_n 0, 1) := by decide +kernel
theorem dX0_keyOf_12 : decode cX0_keyOf 12 = .ok (.getfield 9, 3) := by decide +kernel
theorem dX0_keyOf_15 : decode cX0_keyOf 15 = .ok (.iload_n 1, 1) := by decide +kernel
theorem dX0_keyOf_16 : decode cX0_keyOf 16 = .ok (.iaload, 1) := by decide +kernel
theorem dX0_keyOf_17 : decode cX0_keyOf 17 = .ok (.goto 4, 3) := by decide +kernel

set_option maxHeartbeats 8000000 in
set_option maxRecDepth 100000 in
theorem c_X0_keyOf (l : Launch) (dC : Nat → ClassId) (dI : Nat → Nat → Nat) (g : Nat → ClassId) (Wd : va_W) (a_this : Nat) (a_allKeys : Nat) (a_allMarks : Nat) (count : Int32) (allKeys : Nat → Int32) (record : Int32) (k_this : Nat) (w_this : Wd[k_this]? = some (a_this, .inr (2, [.ref a_allKeys, .ref a_allMarks, .int count]))) (k_allKeys : Nat) (w_allKeys : Wd[k_allKeys]? = some (a_allKeys, .inl (g 0, 200, .inl allKeys))) (Q : Int32 → Prop) (hw : wp_X0_keyOf allKeys record Q) (sz : Nat) : Met l yX0_keyOf wqX0_keyOf ({ frames := 0, cells := 0, slots := 0, locals := 0 }) (va_Pc [.ref a_this, .int record] (PG (dC, dI) g Wd sz)) (va_Qi (fun (r : Int32) (u : Unit) => Q r) (fun (u : Unit) t9 => va_P (dC, dI) vwCl Wd t9.heap) (va_A Wd sz)) 0 0 (va_A Wd sz) := by
  refine Met.ofW (cc := cX0_keyOf) (maxL := 2) (ret := (some .int)) (by decide) rfl ?_
  intro p e s m args below meth c s₁ B hml hv
  obtain ⟨rfl, hsz, hP, hK, hD0, hG⟩ := hv
  have hx := B.exec
  have hb := B.bytes
  have hr := B.returns
  have hts := atoms_spec (ws := wqX0_keyOf) B.pre
  have hown : s.vm.findClass RX0 = some m.cls := findClass_of_methodNamed B.named
  have hlocks := B.notSynchronized
  subst hsz
  have hD := hD0.self (sz := s.heap.size)
  generalize hAe : va_A Wd s.heap.size = A at hD hG ⊢
  have hA : ∀ q : Nat, s.heap.size ≤ q → A q := fun q h => by rw [← hAe]; exact Or.inr h
  have hS : va_S A s.heap s.heap [] := va_S.rf
  have hl := lv_entry ([.ref a_this, .int record]) (n := 2) (Nat.le_of_ble_eq_true rfl)
  rw [lg_entry_eq]
  generalize (lg_sl ([.ref a_this, .int record]) ++ List.replicate (2 - (lg_sl ([.ref a_this, .int record])).length) Slot.unset).toArray = ls at hl ⊢
  have hl : lv_has ls 2 [(0, .ref a_this), (1, .int record)] := hl
  unfold wp_X0_keyOf at hw
  have hf9 := hts (Cond.fieldLink RX0 9 "RunmergeOffice$Book" "allKeys" "[I") (aw_l aw_1_46)
  have hiX0 : ∀ w ∈ u_ws RX0 TX0 3, w ∈ wqX0_keyOf := fun w h => aw_l (aw_wsX00 w h)
  refine lv_iload_n hx hb dX0_keyOf_0 rfl (lv_at hl 1 rfl) ?_
  refine lv_if_lt (tgt := 20) hx hb dX0_keyOf_1 (by decide) (fun c_1 => ?_) (fun c_1 => ?_)
  · have hw := hw.1 c_1
    refine lv_iconst (v := 0) hx hb dX0_keyOf_20 (by decide) ?_
    exact W.iret (v := 0) hx hb hr (fun t ht hW => ⟨⟨0, (), rfl, hw, P_at ht hP⟩, hS.F ht⟩) hS.2.2 dX0_keyOf_21
  · have hw := hw.2 c_1
    refine lv_iload_n hx hb dX0_keyOf_4 rfl (lv_at hl 1 rfl) ?_
    refine lv_sipush (v := 200) hx hb dX0_keyOf_5 (by decide) ?_
    refine lv_icmp_ge (tgt := 20) hx hb dX0_keyOf_8 (by decide) (fun c_2 => ?_) (fun c_2 => ?_)
    · have hw := hw.1 c_2
      refine lv_iconst (v := 0) hx hb dX0_keyOf_20 (by decide) ?_
      exact W.iret (v := 0) hx hb hr (fun t ht hW => ⟨⟨0, (), rfl, hw, P_at ht hP⟩, hS.F ht⟩) hS.2.2 dX0_keyOf_21
    · have hw := hw.2 c_2
      refine lv_aload_n hx hb dX0_keyOf_11 rfl (lv_at hl 0 rfl) ?_
      refine va_get (D := (dC, dI)) (ci := 2) (v := .ref a_allKeys) (C := RX0) (T := TX0) (N := 3) hx hb hts hiX0 hown hK hP k_this w_this rfl 0 (by decide) hf9 (fun _ h9 => h9) rfl dX0_keyOf_12 ?_
      refine lv_iload_n hx hb dX0_keyOf_15 rfl (lv_at hl 1 rfl) ?_
      refine va_iald hx hb hK hP k_allKeys 0 w_allKeys rfl hw.1 dX0_keyOf_16 ?_
      have hw := hw.2
      refine lv_topi (fun x_3 ex_3 => ?_)
      have hw := hw x_3 ex_3
      refine lv_goto (tgt := 21) hx hb dX0_keyOf_17 (by decide) ?_
      exact W.iret (v := x_3) hx hb hr (fun t ht hW => ⟨⟨x_3, (), rfl, hw, P_at ht hP⟩, hS.F ht⟩) hS.2.2 dX0_keyOf_21
theorem dX0_rankOf_0 : decode cX0_rankOf 0 = .ok (.iload_n 1, 1) := by decide +kernel
theorem dX0_rankOf_1 : decode cX0_rankOf 1 = .ok (.ifCond .lt 10, 3) := by decide +kernel
theorem dX0_rankOf_11 : decode cX0_rankOf 11 = .ok (.iconst 0, 1) := by decide +kernel
theorem dX0_rankOf_12 : decode cX0_rankOf 12 = .ok (.ireturn, 1) := by decide +kernel
theorem dX0_rankOf_4 : decode cX0_rankOf 4 = .ok (.iload_n 1, 1) := by decide +kernel
theorem dX0_rankOf_5 : decode cX0_rankOf 5 = .ok (.sipush 200, 3) := by decide +kernel
theorem dX0_rankOf_8 : decode cX0_rankOf 8 = .ok (.if_icmp .lt 5, 3) := by decide +kernel
theorem dX0_rankOf_13 : decode cX0_rankOf 13 = .ok (.iload_n 2, 1) := by decide +kernel
theorem dX0_rankOf_40 : decode cX0_rankOf 40 = .ok (.istore_n 3, 1) := by decide +kernel
theorem dX0_rankOf_41 : decode cX0_rankOf 41 = .ok (.iload_n 3, 1) := by decide +kernel
theorem dX0_rankOf_42 : decode cX0_rankOf 42 = .ok (.sipush 256, 3) := by decide +kernel
theorem dX0_rankOf_45 : decode cX0_rankOf 45 = .ok (.imul, 1) := by decide +kernel
theorem dX0_rankOf_46 : decode cX0_rankOf 46 = .ok (.iload_n 1, 1) := by decide +kernel
theorem dX0_rankOf_47 : decode cX0_rankOf 47 = .ok (.iadd, 1) := by decide +kernel
theorem dX0_rankOf_48 : decode cX0_rankOf 48 = .ok (.ireturn, 1) := by decide +kernel
theorem dX0_rankOf_14 : decode cX0_rankOf 14 = .ok (.ifCond .ne 16, 3) := by decide +kernel
theorem dX0_rankOf_30 : decode cX0_rankOf 30 = .ok (.sipush 999, 3) := by decide +kernel
theorem dX0_rankOf_33 : decode cX0_rankOf 33 = .ok (.aload_n 0, 1) := by decide +kernel
theorem dX0_rankOf_34 : decode cX0_rankOf 34 = .ok (.getfield 9, 3) := by decide +kernel
theorem dX0_rankOf_37 : decode cX0_rankOf 37 = .ok (.iload_n 1, 1) := by decide +kernel
theorem dX0_rankOf_38 : decode cX0_rankOf 38 = .ok (.iaload, 1) := by decide +kernel
theorem dX0_rankOf_39 : decode cX0_rankOf 39 = .ok (.isub, 1) := by decide +kernel
theorem dX0_rankOf_17 : decode cX0_rankOf 17 = .ok (.aload_n 0, 1) := by decide +kernel
theorem dX0_rankOf_18 : decode cX0_rankOf 18 = .ok (.getfield 9, 3) := by decide +kernel
theorem dX0_rankOf_21 : decode cX0_rankOf 21 = .ok (.iload_n 1, 1) := by decide +kernel
theorem dX0_rankOf_22 : decode cX0_rankOf 22 = .ok (.iaload, 1) := by decide +kernel
theorem dX0_rankOf_23 : decode cX0_rankOf 23 = .ok (.sipush 999, 3) := by decide +kernel
theorem dX0_rankOf_26 : decode cX0_rankOf 26 = .ok (.iadd, 1) := by decide +kernel
theorem dX0_rankOf_27 : decode cX0_rankOf 27 = .ok (.goto 13, 3) := by decide +kernel

set_option maxHeartbeats 8000000 in
set_option maxRecDepth 100000 in
theorem c_X0_rankOf (l : Launch) (dC : Nat → ClassId) (dI : Nat → Nat → Nat) (g : Nat → ClassId) (Wd : va_W) (a_this : Nat) (a_allKeys : Nat) (a_allMarks : Nat) (count : Int32) (allKeys : Nat → Int32) (record : Int32) (order : Int32) (k_this : Nat) (w_this : Wd[k_this]? = some (a_this, .inr (2, [.ref a_allKeys, .ref a_allMarks, .int count]))) (k_allKeys : Nat) (w_allKeys : Wd[k_allKeys]? = some (a_allKeys, .inl (g 0, 200, .inl allKeys))) (Q : Int32 → Prop) (hw : wp_X0_rankOf allKeys record order Q) (sz : Nat) : Met l yX0_rankOf wqX0_rankOf ({ frames := 0, cells := 0, slots := 0, locals := 0 }) (va_Pc [.ref a_this, .int record, .int order] (PG (dC, dI) g Wd sz)) (va_Qi (fun (r : Int32) (u : Unit) => Q r) (fun (u : Unit) t9 => va_P (dC, dI) vwCl Wd t9.heap) (va_A Wd sz)) 0 0 (va_A Wd sz) := by
  refine Met.ofW (cc := cX0_rankOf) (maxL := 4) (ret := (some .int)) (by decide) rfl ?_
  intro p e s m args below meth c s₁ B hml hv
  obtain ⟨rfl, hsz, hP, hK, hD0, hG⟩ := hv
  have hx := B.exec
  have hb := B.bytes
  have hr := B.returns
  have hts := atoms_spec (ws := wqX0_rankOf) B.pre
  have hown : s.vm.findClass RX0 = some m.cls := findClass_of_methodNamed B.named
  have hlocks := B.notSynchronized
  subst hsz
  have hD := hD0.self (sz := s.heap.size)
  generalize hAe : va_A Wd s.heap.size = A at hD hG ⊢
  have hA : ∀ q : Nat, s.heap.size ≤ q → A q := fun q h => by rw [← hAe]; exact Or.inr h
  have hS : va_S A s.heap s.heap [] := va_S.rf
  have hl := lv_entry ([.ref a_this, .int record, .int order]) (n := 4) (Nat.le_of_ble_eq_true rfl)
  rw [lg_entry_eq]
  generalize (lg_sl ([.ref a_this, .int record, .int order]) ++ List.replicate (4 - (lg_sl ([.ref a_this, .int record, .int order])).length) Slot.unset).toArray = ls at hl ⊢
  have hl : lv_has ls 4 [(0, .ref a_this), (1, .int record), (2, .int order)] := hl
  unfold wp_X0_rankOf at hw
  have hf9 := hts (Cond.fieldLink RX0 9 "RunmergeOffice$Book" "allKeys" "[I") (aw_l aw_1_46)
  have hiX0 : ∀ w ∈ u_ws RX0 TX0 3, w ∈ wqX0_rankOf := fun w h => aw_l (aw_wsX00 w h)
  refine lv_iload_n hx hb dX0_rankOf_0 rfl (lv_at hl 1 rfl) ?_
  refine lv_if_lt (tgt := 11) hx hb dX0_rankOf_1 (by decide) (fun c_1 => ?_) (fun c_1 => ?_)
  · have hw := hw.1 c_1
    refine lv_iconst (v := 0) hx hb dX0_rankOf_11 (by decide) ?_
    exact W.iret (v := 0) hx hb hr (fun t ht hW => ⟨⟨0, (), rfl, hw, P_at ht hP⟩, hS.F ht⟩) hS.2.2 dX0_rankOf_12
  · have hw := hw.2 c_1
    refine lv_iload_n hx hb dX0_rankOf_4 rfl (lv_at hl 1 rfl) ?_
    refine lv_sipush (v := 200) hx hb dX0_rankOf_5 (by decide) ?_
    refine lv_icmp_lt (tgt := 13) hx hb dX0_rankOf_8 (by decide) (fun c_2 => ?_) (fun c_2 => ?_)
    · have hw := hw.1 c_2
      refine lv_iload_n hx hb dX0_rankOf_13 rfl (lv_at hl 2 rfl) ?_
      refine W_abs (fun QM hQM => ?_)
      have JN40 : ∀ (sk0_3 : Int32) (H : Heap) (locs : List Loc), (wj_X0_rankOf_40 record Q) sk0_3 → va_P (dC, dI) vwCl Wd H → va_S A s.heap H locs → ∀ (ls : Array Slot), lv_has ls 4 [(1, .int record)] → W p l e (headSpec wqX0_rankOf ({ frames := 0, cells := 0, slots := 0, locals := 0 })).room s m ([.ref a_this, .int record, .int order] : List Value).toArray below meth c H locs 0 0 QM (F0 m 40 ls [.int sk0_3]) := by
        intro sk0_3 H locs hw hP hS ls hl
        refine lv_istore_n (lv' := [(3, .int sk0_3), (1, .int record)]) hx hb dX0_rankOf_40 rfl hl (by decide) rfl (fun ls hl => ?_)
        refine lv_iload_n hx hb dX0_rankOf_41 rfl (lv_at hl 0 rfl) ?_
        refine lv_sipush (v := 256) hx hb dX0_rankOf_42 (by decide) ?_
        refine lv_imul hx hb dX0_rankOf_45 ?_
        refine lv_topi (fun x_4 ex_4 => ?_)
        have hw := hw x_4 ex_4
        refine lv_iload_n hx hb dX0_rankOf_46 rfl (lv_at hl 1 rfl) ?_
        refine lv_iadd hx hb dX0_rankOf_47 ?_
        refine lv_topi (fun x_5 ex_5 => ?_)
        have hw := hw x_5 ex_5
        subst hQM
        exact W.iret (v := x_5) hx hb hr (fun t ht hW => ⟨⟨x_5, (), rfl, hw, P_at ht hP⟩, hS.F ht⟩) hS.2.2 dX0_rankOf_48
      refine lv_if_ne (tgt := 30) hx hb dX0_rankOf_14 (by decide) (fun c_6 => ?_) (fun c_6 => ?_)
      · have hw := hw.2 c_6
        refine lv_sipush (v := 999) hx hb dX0_rankOf_30 (by decide) ?_
        refine lv_aload_n hx hb dX0_rankOf_33 rfl (lv_at hl 0 rfl) ?_
        refine va_get (D := (dC, dI)) (ci := 2) (v := .ref a_allKeys) (C := RX0) (T := TX0) (N := 3) hx hb hts hiX0 hown hK hP k_this w_this rfl 0 (by decide) hf9 (fun _ h9 => h9) rfl dX0_rankOf_34 ?_
        refine lv_iload_n hx hb dX0_rankOf_37 rfl (lv_at hl 1 rfl) ?_
        refine va_iald hx hb hK hP k_allKeys 0 w_allKeys rfl hw.1 dX0_rankOf_38 ?_
        have hw := hw.2
        refine lv_topi (fun x_7 ex_7 => ?_)
        have hw := hw x_7 ex_7
        refine lv_isub hx hb dX0_rankOf_39 ?_
        refine lv_topi (fun x_8 ex_8 => ?_)
        have hw := hw x_8 ex_8
        exact JN40 x_8 _ _ hw hP hS _ (lv_sub hl [1] rfl)
      · have hw := hw.1 c_6
        refine lv_aload_n hx hb dX0_rankOf_17 rfl (lv_at hl 0 rfl) ?_
        refine va_get (D := (dC, dI)) (ci := 2) (v := .ref a_allKeys) (C := RX0) (T := TX0) (N := 3) hx hb hts hiX0 hown hK hP k_this w_this rfl 0 (by decide) hf9 (fun _ h9 => h9) rfl dX0_rankOf_18 ?_
        refine lv_iload_n hx hb dX0_rankOf_21 rfl (lv_at hl 1 rfl) ?_
        refine va_iald hx hb hK hP k_allKeys 0 w_allKeys rfl hw.1 dX0_rankOf_22 ?_
        have hw := hw.2
        refine lv_topi (fun x_9 ex_9 => ?_)
        have hw := hw x_9 ex_9
        refine lv_sipush (v := 999) hx hb dX0_rankOf_23 (by decide) ?_
        refine lv_iadd hx hb dX0_rankOf_26 ?_
        refine lv_topi (fun x_10 ex_10 => ?_)
        have hw := hw x_10 ex_10
        refine lv_goto (tgt := 40) hx hb dX0_rankOf_27 (by decide) ?_
        exact JN40 x_10 _ _ hw hP hS _ (lv_sub hl [1] rfl)
    · have hw := hw.2 c_2
      refine lv_iconst (v := 0) hx hb dX0_rankOf_11 (by decide) ?_
      exact W.iret (v := 0) hx hb hr (fun t ht hW => ⟨⟨0, (), rfl, hw, P_at ht hP⟩, hS.F ht⟩) hS.2.2 dX0_rankOf_12
theorem dX0_recordOf_0 : decode cX0_recordOf 0 = .ok (.iload_n 0, 1) := by decide +kernel
theorem dX0_recordOf_1 : decode cX0_recordOf 1 = .ok (.sipush 255, 3) := by decide +kernel
theorem dX0_recordOf_4 : decode cX0_recordOf 4 = .ok (.iand, 1) := by decide +kernel
theorem dX0_recordOf_5 : decode cX0_recordOf 5 = .ok (.ireturn, 1) := by decide +kernel

set_option maxHeartbeats 8000000 in
set_option maxRecDepth 100000 in
theorem c_X0_recordOf (l : Launch) (dC : Nat → ClassId) (dI : Nat → Nat → Nat) (g : Nat → ClassId) (Wd : va_W) (rank : Int32) (Q : Int32 → Prop) (hw : wp_X0_recordOf rank Q) (sz : Nat) : Met l yX0_recordOf wqX0_recordOf ({ frames := 0, cells := 0, slots := 0, locals := 0 }) (va_Pc [.int rank] (PG (dC, dI) g Wd sz)) (va_Qi (fun (r : Int32) (u : Unit) => Q r) (fun (u : Unit) t9 => va_P (dC, dI) vwCl Wd t9.heap) (va_A Wd sz)) 0 0 (va_A Wd sz) := by
  refine Met.ofW (cc := cX0_recordOf) (maxL := 1) (ret := (some .int)) (by decide) rfl ?_
  intro p e s m args below meth c s₁ B hml hv
  obtain ⟨rfl, hsz, hP, hK, hD0, hG⟩ := hv
  have hx := B.exec
  have hb := B.bytes
  have hr := B.returns
  have hts := atoms_spec (ws := wqX0_recordOf) B.pre
  have hown : s.vm.findClass RX0 = some m.cls := findClass_of_methodNamed B.named
  have hlocks := B.notSynchronized
  subst hsz
  have hD := hD0.self (sz := s.heap.size)
  generalize hAe : va_A Wd s.heap.size = A at hD hG ⊢
  have hA : ∀ q : Nat, s.heap.size ≤ q → A q := fun q h => by rw [← hAe]; exact Or.inr h
  have hS : va_S A s.heap s.heap [] := va_S.rf
  have hl := lv_entry ([.int rank]) (n := 1) (Nat.le_of_ble_eq_true rfl)
  rw [lg_entry_eq]
  generalize (lg_sl ([.int rank]) ++ List.replicate (1 - (lg_sl ([.int rank])).length) Slot.unset).toArray = ls at hl ⊢
  have hl : lv_has ls 1 [(0, .int rank)] := hl
  unfold wp_X0_recordOf at hw
  refine lv_iload_n hx hb dX0_recordOf_0 rfl (lv_at hl 0 rfl) ?_
  refine lv_sipush (v := 255) hx hb dX0_recordOf_1 (by decide) ?_
  refine lv_iand hx hb dX0_recordOf_4 ?_
  refine lv_topi (fun x_1 ex_1 => ?_)
  have hw := hw x_1 ex_1
  exact W.iret (v := x_1) hx hb hr (fun t ht hW => ⟨⟨x_1, (), rfl, hw, P_at ht hP⟩, hS.F ht⟩) hS.2.2 dX0_recordOf_5
theorem dX9_recordAt_0 : decode cX9_recordAt 0 = .ok (.iload_n 1, 1) := by decide +kernel
theorem dX9_recordAt_1 : decode cX9_recordAt 1 = .ok (.ifCond .lt 26, 3) := by decide +kernel
theorem dX9_recordAt_27 : decode cX9_recordAt 27 = .ok (.iconst (-1), 1) := by decide +kernel
theorem dX9_recordAt_28 : decode cX9_recordAt 28 = .ok (.ireturn, 1) := by decide +kernel
theorem dX9_recordAt_4 : decode cX9_recordAt 4 = .ok (.iload_n 1, 1) := by decide +kernel
theorem dX9_recordAt_5 : decode cX9_recordAt 5 = .ok (.aload_n 0, 1) := by decide +kernel
theorem dX9_recordAt_6 : decode cX9_recordAt 6 = .ok (.getfield 15, 3) := by decide +kernel
theorem dX9_recordAt_9 : decode cX9_recordAt 9 = .ok (.if_icmp .ge 18, 3) := by decide +kernel
theorem dX9_recordAt_12 : decode cX9_recordAt 12 = .ok (.iload_n 1, 1) := by decide +kernel
theorem dX9_recordAt_13 : decode cX9_recordAt 13 = .ok (.bipush 100, 2) := by decide +kernel
theorem dX9_recordAt_15 : decode cX9_recordAt 15 = .ok (.if_icmp .ge 12, 3) := by decide +kernel
theorem dX9_recordAt_18 : decode cX9_recordAt 18 = .ok (.aload_n 0, 1) := by decide +kernel
theorem dX9_recordAt_19 : decode cX9_recordAt 19 = .ok (.getfield 9, 3) := by decide +kernel
theorem dX9_recordAt_22 : decode cX9_recordAt 22 = .ok (.iload_n 1, 1) := by decide +kernel
theorem dX9_recordAt_23 : decode cX9_recordAt 23 = .ok (.iaload, 1) := by decide +kernel
theorem dX9_recordAt_24 : decode cX9_recordAt 24 = .ok (.goto 4, 3) := by decide +kernel

set_option maxHeartbeats 8000000 in
set_option maxRecDepth 100000 in
theorem c_X9_recordAt (l : Launch) (dC : Nat → ClassId) (dI : Nat → Nat → Nat) (g : Nat → ClassId) (tp hd : Nat → Nat) (Wd : va_W) (F_ : Nat → Nat → Int32) (n_ : Nat → Int32) (j : Nat) (place : Int32) (hj_j : j < 18) (kT : Nat) (hT : TPat Wd kT tp hd (g 0) F_ n_) (Q : Int32 → Prop) (hw : wp_X9_recordAt j place F_ n_ Q) (sz : Nat) : Met l yX9_recordAt wqX9_recordAt ({ frames := 0, cells := 0, slots := 0, locals := 0 }) (va_Pc [.ref (tp j), .int place] (PG (dC, dI) g Wd sz)) (va_Qi (fun (r : Int32) (u : Unit) => Q r) (fun (u : Unit) t9 => va_P (dC, dI) vwCl Wd t9.heap) (va_A Wd sz)) 0 0 (va_A Wd sz) := by
  refine Met.ofW (cc := cX9_recordAt) (maxL := 2) (ret := (some .int)) (by decide) rfl ?_
  intro p e s m args below meth c s₁ B hml hv
  obtain ⟨rfl, hsz, hP, hK, hD0, hG⟩ := hv
  have hx := B.exec
  have hb := B.bytes
  have hr := B.returns
  have hts := atoms_spec (ws := wqX9_recordAt) B.pre
  have hown : s.vm.findClass RX9 = some m.cls := findClass_of_methodNamed B.named
  have hlocks := B.notSynchronized
  subst hsz
  have hD := hD0.self (sz := s.heap.size)
  generalize hAe : va_A Wd s.heap.size = A at hD hG ⊢
  have hA : ∀ q : Nat, s.heap.size ≤ q → A q := fun q h => by rw [← hAe]; exact Or.inr h
  have hS : va_S A s.heap s.heap [] := va_S.rf
  have hl := lv_entry ([.ref (tp j), .int place]) (n := 2) (Nat.le_of_ble_eq_true rfl)
  rw [lg_entry_eq]
  generalize (lg_sl ([.ref (tp j), .int place]) ++ List.replicate (2 - (lg_sl ([.ref (tp j), .int place])).length) Slot.unset).toArray = ls at hl ⊢
  have hl : lv_has ls 2 [(0, .ref (tp j)), (1, .int place)] := hl
  unfold wp_X9_recordAt at hw
  have hf15 := hts (Cond.fieldLink RX9 15 "RunmergeOffice$Tape" "size" "I") (aw_l aw_1_66)
  have hiX9 : ∀ w ∈ u_ws RX9 TX9 2, w ∈ wqX9_recordAt := fun w h => aw_l (aw_wsX90 w h)
  have hf9 := hts (Cond.fieldLink RX9 9 "RunmergeOffice$Tape" "held" "[I") (aw_l aw_1_65)
  refine lv_iload_n hx hb dX9_recordAt_0 rfl (lv_at hl 1 rfl) ?_
  refine lv_if_lt (tgt := 27) hx hb dX9_recordAt_1 (by decide) (fun c_1 => ?_) (fun c_1 => ?_)
  · have hw := hw.1 c_1
    refine lv_iconst (v := (-1)) hx hb dX9_recordAt_27 (by decide) ?_
    exact W.iret (v := (-1)) hx hb hr (fun t ht hW => ⟨⟨(-1), (), rfl, hw, P_at ht hP⟩, hS.F ht⟩) hS.2.2 dX9_recordAt_28
  · have hw := hw.2 c_1
    refine lv_iload_n hx hb dX9_recordAt_4 rfl (lv_at hl 1 rfl) ?_
    refine lv_aload_n hx hb dX9_recordAt_5 rfl (lv_at hl 0 rfl) ?_
    refine va_get (D := (dC, dI)) (ci := 11) (v := .int (n_ j)) (C := RX9) (T := TX9) (N := 2) hx hb hts hiX9 hown hK hP _ (hT.o hj_j) rfl 1 (by decide) hf15 (fun _ h9 => h9) rfl dX9_recordAt_6 ?_
    refine lv_icmp_ge (tgt := 27) hx hb dX9_recordAt_9 (by decide) (fun c_2 => ?_) (fun c_2 => ?_)
    · have hw := hw.1 c_2
      refine lv_iconst (v := (-1)) hx hb dX9_recordAt_27 (by decide) ?_
      exact W.iret (v := (-1)) hx hb hr (fun t ht hW => ⟨⟨(-1), (), rfl, hw, P_at ht hP⟩, hS.F ht⟩) hS.2.2 dX9_recordAt_28
    · have hw := hw.2 c_2
      refine lv_iload_n hx hb dX9_recordAt_12 rfl (lv_at hl 1 rfl) ?_
      refine lv_bipush (v := 100) hx hb dX9_recordAt_13 (by decide) ?_
      refine lv_icmp_ge (tgt := 27) hx hb dX9_recordAt_15 (by decide) (fun c_3 => ?_) (fun c_3 => ?_)
      · have hw := hw.1 c_3
        refine lv_iconst (v := (-1)) hx hb dX9_recordAt_27 (by decide) ?_
        exact W.iret (v := (-1)) hx hb hr (fun t ht hW => ⟨⟨(-1), (), rfl, hw, P_at ht hP⟩, hS.F ht⟩) hS.2.2 dX9_recordAt_28
      · have hw := hw.2 c_3
        refine lv_aload_n hx hb dX9_recordAt_18 rfl (lv_at hl 0 rfl) ?_
        refine va_get (D := (dC, dI)) (ci := 11) (v := .ref (hd j)) (C := RX9) (T := TX9) (N := 2) hx hb hts hiX9 hown hK hP _ (hT.o hj_j) rfl 0 (by decide) hf9 (fun _ h9 => h9) rfl dX9_recordAt_19 ?_
        refine lv_iload_n hx hb dX9_recordAt_22 rfl (lv_at hl 1 rfl) ?_
        refine va_iald hx hb hK hP _ 0 (hT.a hj_j) rfl hw.1 dX9_recordAt_23 ?_
        have hw := hw.2
        refine lv_topi (fun x_4 ex_4 => ?_)
        have hw := hw x_4 ex_4
        refine lv_goto (tgt := 28) hx hb dX9_recordAt_24 (by decide) ?_
        exact W.iret (v := x_4) hx hb hr (fun t ht hW => ⟨⟨x_4, (), rfl, hw, P_at ht hP⟩, hS.F ht⟩) hS.2.2 dX9_recordAt_28
theorem dX9_keyAt_0 : decode cX9_keyAt 0 = .ok (.aload_n 1, 1) := by decide +kernel
theorem dX9_keyAt_1 : decode cX9_keyAt 1 = .ok (.aload_n 0, 1) := by decide +kernel
theorem dX9_keyAt_2 : decode cX9_keyAt 2 = .ok (.iload_n 2, 1) := by decide +kernel
theorem dX9_keyAt_3 : decode cX9_keyAt 3 = .ok (.invokevirtual 19, 3) := by decide +kernel
theorem dX9_keyAt_6 : decode cX9_keyAt 6 = .ok (.invokevirtual 23, 3) := by decide +kernel
theorem dX9_keyAt_9 : decode cX9_keyAt 9 = .ok (.ireturn, 1) := by decide +kernel

set_option maxHeartbeats 8000000 in
set_option maxRecDepth 100000 in
theorem c_X9_keyAt (l : Launch) (dC : Nat → ClassId) (dI : Nat → Nat → Nat) (g : Nat → ClassId) (tp hd : Nat → Nat) (Wd : va_W) (a_book : Nat) (a_book_allKeys : Nat) (a_book_allMarks : Nat) (book_count : Int32) (book_allKeys : Nat → Int32) (F_ : Nat → Nat → Int32) (n_ : Nat → Int32) (j : Nat) (place : Int32) (hj_j : j < 18) (k_book : Nat) (w_book : Wd[k_book]? = some (a_book, .inr (2, [.ref a_book_allKeys, .ref a_book_allMarks, .int book_count]))) (k_book_allKeys : Nat) (w_book_allKeys : Wd[k_book_allKeys]? = some (a_book_allKeys, .inl (g 0, 200, .inl book_allKeys))) (kT : Nat) (hT : TPat Wd kT tp hd (g 0) F_ n_) (Q : Int32 → Prop) (hw : wp_X9_keyAt book_allKeys j place F_ n_ Q) (sz : Nat) : Met l yX9_keyAt wqX9_keyAt ({ frames := 1, cells := 0, slots := 0, locals := 21 }) (va_Pc [.ref (tp j), .ref a_book, .int place] (PG (dC, dI) g Wd sz)) (va_Qi (fun (r : Int32) (u : Unit) => Q r) (fun (u : Unit) t9 => va_P (dC, dI) vwCl Wd t9.heap) (va_A Wd sz)) 0 0 (va_A Wd sz) := by
  refine Met.ofW (cc := cX9_keyAt) (maxL := 3) (ret := (some .int)) (by decide) rfl ?_
  intro p e s m args below meth c s₁ B hml hv
  obtain ⟨rfl, hsz, hP, hK, hD0, hG⟩ := hv
  have hx := B.exec
  have hb := B.bytes
  have hr := B.returns
  have hts := atoms_spec (ws := wqX9_keyAt) B.pre
  have hown : s.vm.findClass RX9 = some m.cls := findClass_of_methodNamed B.named
  have hlocks := B.notSynchronized
  subst hsz
  have hD := hD0.self (sz := s.heap.size)
  generalize hAe : va_A Wd s.heap.size = A at hD hG ⊢
  have hA : ∀ q : Nat, s.heap.size ≤ q → A q := fun q h => by rw [← hAe]; exact Or.inr h
  have hS : va_S A s.heap s.heap [] := va_S.rf
  have hl := lv_entry ([.ref (tp j), .ref a_book, .int place]) (n := 3) (Nat.le_of_ble_eq_true rfl)
  rw [lg_entry_eq]
  generalize (lg_sl ([.ref (tp j), .ref a_book, .int place]) ++ List.replicate (3 - (lg_sl ([.ref (tp j), .ref a_book, .int place])).length) Slot.unset).toArray = ls at hl ⊢
  have hl : lv_has ls 3 [(0, .ref (tp j)), (1, .ref a_book), (2, .int place)] := hl
  unfold wp_X9_keyAt at hw
  refine lv_aload_n hx hb dX9_keyAt_0 rfl (lv_at hl 1 rfl) ?_
  refine lv_aload_n hx hb dX9_keyAt_1 rfl (lv_at hl 0 rfl) ?_
  refine lv_iload_n hx hb dX9_keyAt_2 rfl (lv_at hl 2 rfl) ?_
  refine va_calli (va_runV (As := [.int place]) (rest := [.ref a_book]) ⟨hx, hb, hml, hown, hts⟩ (c_X9_recordAt l dC dI g tp hd (Wd := Wd) (F_ := F_) (n_ := n_) (j := j) (place := place) (hj_j := hj_j) (kT := _) (hT := hT) (hw := hw) (sz := s.heap.size)) (cwV 1 hts (gqV aw_4_220 aw_3_171 aw_3_172 aw_1_3 aw_3_173) rfl rfl rfl (by decide +kernel) ⟨Nat.le_of_ble_eq_true rfl, Nat.le_of_ble_eq_true rfl⟩) ⟨PG_blind, va_recv hK hP (ci := 11) (q0 := _) rfl (hT.o hj_j), PG_call hK hG hS hP hD (A_all hD hA hS.1)⟩ rfl rfl hl.1 rfl (lv_room (Nat.le_of_ble_eq_true rfl)) dX9_keyAt_3 ⟨Nat.le_of_ble_eq_true rfl, Nat.le_of_ble_eq_true rfl⟩) hS (fun q _ h => (A_all hD hA hS.1) q h) (A_all hD hA hS.1) (fun r_1 u_1 t_1 H_1 L_1 ht_1 hvm_1 hw_1 hB_1 hz_1 hk_1 hS => ?_)
  rw [ht_1] at hB_1
  have hP : va_P (dC, dI) vwCl Wd H_1 := hB_1
  have hw := hw_1
  refine va_calli (va_runV (As := [.int r_1]) (rest := []) ⟨hx, hb, hml, hown, hts⟩ (c_X0_keyOf l dC dI g (Wd := Wd) (a_this := a_book) (a_allKeys := a_book_allKeys) (a_allMarks := a_book_allMarks) (count := book_count) (allKeys := book_allKeys) (record := r_1) (k_this := k_book) (w_this := w_book) (k_allKeys := k_book_allKeys) (w_allKeys := w_book_allKeys) (hw := hw) (sz := H_1.size)) (cwV 1 hts (gqV aw_4_235 aw_4_35 aw_4_36 aw_1_2 aw_4_37) rfl rfl rfl (by decide +kernel) ⟨Nat.le_of_ble_eq_true rfl, Nat.le_of_ble_eq_true rfl⟩) ⟨PG_blind, va_recv hK hP (ci := 2) (q0 := k_book) rfl w_book, PG_call hK hG hS hP hD (A_all hD hA hS.1)⟩ rfl rfl hl.1 rfl (lv_room (Nat.le_of_ble_eq_true rfl)) dX9_keyAt_6 ⟨Nat.le_of_ble_eq_true rfl, Nat.le_of_ble_eq_true rfl⟩) hS (fun q _ h => (A_all hD hA hS.1) q h) (A_all hD hA hS.1) (fun r_2 u_2 t_2 H_2 L_2 ht_2 hvm_2 hw_2 hB_2 hz_2 hk_2 hS => ?_)
  rw [ht_2] at hB_2
  have hP : va_P (dC, dI) vwCl Wd H_2 := hB_2
  have hw := hw_2
  exact W.iret (v := r_2) hx hb hr (fun t ht hW => ⟨⟨r_2, (), rfl, hw, P_at ht hP⟩, hS.F ht⟩) hS.2.2 dX9_keyAt_9
theorem dX9_empty_0 : decode cX9_empty 0 = .ok (.aload_n 0, 1) := by decide +kernel
theorem dX9_empty_1 : decode cX9_empty 1 = .ok (.iconst 0, 1) := by decide +kernel
theorem dX9_empty_2 : decode cX9_empty 2 = .ok (.putfield 15, 3) := by decide +kernel
theorem dX9_empty_5 : decode cX9_empty 5 = .ok (.return_, 1) := by decide +kernel
abbrev Wa_X9_empty (g : Nat → ClassId) (tp : Nat → Nat) (hd : Nat → Nat) (F_ : Nat → Nat → Int32) (n_ : Nat → Int32) : va_W := ([] ++ TPl tp hd (g 0) F_ n_)
abbrev Wb_X9_empty (g : Nat → ClassId) (tp : Nat → Nat) (hd : Nat → Nat) (F_ : Nat → Nat → Int32) (u : (Nat → Int32) × Unit) : va_W := ([] ++ TPl tp hd (g 0) F_ u.1)
set_option maxHeartbeats 8000000 in
set_option maxRecDepth 100000 in
theorem c_X9_empty (l : Launch) (dC : Nat → ClassId) (dI : Nat → Nat → Nat) (g : Nat → ClassId) (tp hd : Nat → Nat) (F_ : Nat → Nat → Int32) (n_ : Nat → Int32) (j : Nat) (hj_j : j < 18) (Q : (Nat → Int32) → Prop) (hw : wp_X9_empty j n_ Q) (sz : Nat) : Met l yX9_empty wqX9_empty ({ frames := 0, cells := 0, slots := 0, locals := 0 }) (va_Pc [.ref (tp j)] (PG (dC, dI) g (Wa_X9_empty g tp hd F_ n_) sz)) (va_Qv (fun (u : (Nat → Int32) × Unit) => Q u.1) (fun (u : (Nat → Int32) × Unit) t9 => va_P (dC, dI) vwCl (Wb_X9_empty g tp hd F_ u) t9.heap ∧ va_D (va_A (Wa_X9_empty g tp hd F_ n_) sz) (Wb_X9_empty g tp hd F_ u)) (va_A (Wa_X9_empty g tp hd F_ n_) sz)) 0 0 (va_A (Wa_X9_empty g tp hd F_ n_) sz) := by
  refine Met.ofW (cc := cX9_empty) (maxL := 1) (ret := none) (by decide) rfl ?_
  intro p e s m args below meth c s₁ B hml hv
  obtain ⟨rfl, hsz, hP, hK, hD0, hG⟩ := hv
  have hx := B.exec
  have hb := B.bytes
  have hr := B.returns
  have hts := atoms_spec (ws := wqX9_empty) B.pre
  have hown : s.vm.findClass RX9 = some m.cls := findClass_of_methodNamed B.named
  have hlocks := B.notSynchronized
  subst hsz
  have hD := hD0.self (sz := s.heap.size)
  generalize hAe : va_A (Wa_X9_empty g tp hd F_ n_) s.heap.size = A at hD hG ⊢
  have hA : ∀ q : Nat, s.heap.size ≤ q → A q := fun q h => by rw [← hAe]; exact Or.inr h
  have hS : va_S A s.heap s.heap [] := va_S.rf
  have hl := lv_entry ([.ref (tp j)]) (n := 1) (Nat.le_of_ble_eq_true rfl)
  rw [lg_entry_eq]
  generalize (lg_sl ([.ref (tp j)]) ++ List.replicate (1 - (lg_sl ([.ref (tp j)])).length) Slot.unset).toArray = ls at hl ⊢
  have hl : lv_has ls 1 [(0, .ref (tp j))] := hl
  unfold wp_X9_empty at hw
  have hf15 := hts (Cond.fieldLink RX9 15 "RunmergeOffice$Tape" "size" "I") (aw_l aw_1_66)
  have hiX9 : ∀ w ∈ u_ws RX9 TX9 2, w ∈ wqX9_empty := fun w h => aw_l (aw_wsX90 w h)
  refine lv_aload_n hx hb dX9_empty_0 rfl (lv_at hl 0 rfl) ?_
  refine lv_iconst (v := 0) hx hb dX9_empty_1 (by decide) ?_
  refine va_put (D := (dC, dI)) (ci := 11) (v := .int 0) (ty := .int) (C := RX9) (T := TX9) (N := 2) hx hb hts hiX9 tyX9 tyX9_ok nmX9 hown hK hP hD hS _ (TP_o hj_j) rfl 1 (by decide) hf15 (fun _ h9 => h9) rfl (by decide +kernel) rfl rfl (Nat.le_of_ble_eq_true rfl) dX9_empty_2 (fun H_1 L_2 hP hD hS => ?_)
  rw [TP_setn hj_j] at hP hD
  have hP : va_P (dC, dI) vwCl ([] ++ TPl tp hd (g 0) F_ (va_up n_ j 0)) H_1 := hP
  have hD : va_D A ([] ++ TPl tp hd (g 0) F_ (va_up n_ j 0)) := hD
  have hP9 := va_P.part (cx := []) hP [] rfl
  have hD9 := va_D.part (cx := []) hD [] (by decide) rfl
  exact W.vret hx hb hr (fun t ht hW => ⟨⟨((va_up n_ j 0), ()), rfl, hw, ⟨P_at ht hP9, hD9⟩⟩, hS.F ht⟩) hS.2.2 dX9_empty_5
theorem dX9_add_0 : decode cX9_add 0 = .ok (.aload_n 0, 1) := by decide +kernel
theorem dX9_add_1 : decode cX9_add 1 = .ok (.getfield 15, 3) := by decide +kernel
theorem dX9_add_4 : decode cX9_add 4 = .ok (.ifCond .lt 32, 3) := by decide +kernel
theorem dX9_add_36 : decode cX9_add 36 = .ok (.return_, 1) := by decide +kernel
theorem dX9_add_7 : decode cX9_add 7 = .ok (.aload_n 0, 1) := by decide +kernel
theorem dX9_add_8 : decode cX9_add 8 = .ok (.getfield 15, 3) := by decide +kernel
theorem dX9_add_11 : decode cX9_add 11 = .ok (.bipush 100, 2) := by decide +kernel
theorem dX9_add_13 : decode cX9_add 13 = .ok (.if_icmp .ge 23, 3) := by decide +kernel
theorem dX9_add_16 : decode cX9_add 16 = .ok (.aload_n 0, 1) := by decide +kernel
theorem dX9_add_17 : decode cX9_add 17 = .ok (.getfield 9, 3) := by decide +kernel
theorem dX9_add_20 : decode cX9_add 20 = .ok (.aload_n 0, 1) := by decide +kernel
theorem dX9_add_21 : decode cX9_add 21 = .ok (.getfield 15, 3) := by decide +kernel
theorem dX9_add_24 : decode cX9_add 24 = .ok (.iload_n 1, 1) := by decide +kernel
theorem dX9_add_25 : decode cX9_add 25 = .ok (.iastore, 1) := by decide +kernel
theorem dX9_add_26 : decode cX9_add 26 = .ok (.aload_n 0, 1) := by decide +kernel
theorem dX9_add_27 : decode cX9_add 27 = .ok (.dup, 1) := by decide +kernel
theorem dX9_add_28 : decode cX9_add 28 = .ok (.getfield 15, 3) := by decide +kernel
theorem dX9_add_31 : decode cX9_add 31 = .ok (.iconst 1, 1) := by decide +kernel
theorem dX9_add_32 : decode cX9_add 32 = .ok (.iadd, 1) := by decide +kernel
theorem dX9_add_33 : decode cX9_add 33 = .ok (.putfield 15, 3) := by decide +kernel
abbrev Wa_X9_add (g : Nat → ClassId) (tp : Nat → Nat) (hd : Nat → Nat) (F_ : Nat → Nat → Int32) (n_ : Nat → Int32) : va_W := ([] ++ TPl tp hd (g 0) F_ n_)
abbrev Wb_X9_add (g : Nat → ClassId) (tp : Nat → Nat) (hd : Nat → Nat) (u : (Nat → Nat → Int32) × (Nat → Int32) × Unit) : va_W := ([] ++ TPl tp hd (g 0) u.1 u.2.1)
set_option maxHeartbeats 8000000 in
set_option maxRecDepth 100000 in
theorem c_X9_add (l : Launch) (dC : Nat → ClassId) (dI : Nat → Nat → Nat) (g : Nat → ClassId) (tp hd : Nat → Nat) (F_ : Nat → Nat → Int32) (n_ : Nat → Int32) (j : Nat) (record : Int32) (hj_j : j < 18) (Q : (Nat → Nat → Int32) → (Nat → Int32) → Prop) (hw : wp_X9_add j record F_ n_ Q) (sz : Nat) : Met l yX9_add wqX9_add ({ frames := 0, cells := 0, slots := 0, locals := 0 }) (va_Pc [.ref (tp j), .int record] (PG (dC, dI) g (Wa_X9_add g tp hd F_ n_) sz)) (va_Qv (fun (u : (Nat → Nat → Int32) × (Nat → Int32) × Unit) => Q u.1 u.2.1) (fun (u : (Nat → Nat → Int32) × (Nat → Int32) × Unit) t9 => va_P (dC, dI) vwCl (Wb_X9_add g tp hd u) t9.heap ∧ va_D (va_A (Wa_X9_add g tp hd F_ n_) sz) (Wb_X9_add g tp hd u)) (va_A (Wa_X9_add g tp hd F_ n_) sz)) 0 0 (va_A (Wa_X9_add g tp hd F_ n_) sz) := by
  refine Met.ofW (cc := cX9_add) (maxL := 2) (ret := none) (by decide) rfl ?_
  intro p e s m args below meth c s₁ B hml hv
  obtain ⟨rfl, hsz, hP, hK, hD0, hG⟩ := hv
  have hx := B.exec
  have hb := B.bytes
  have hr := B.returns
  have hts := atoms_spec (ws := wqX9_add) B.pre
  have hown : s.vm.findClass RX9 = some m.cls := findClass_of_methodNamed B.named
  have hlocks := B.notSynchronized
  subst hsz
  have hD := hD0.self (sz := s.heap.size)
  generalize hAe : va_A (Wa_X9_add g tp hd F_ n_) s.heap.size = A at hD hG ⊢
  have hA : ∀ q : Nat, s.heap.size ≤ q → A q := fun q h => by rw [← hAe]; exact Or.inr h
  have hS : va_S A s.heap s.heap [] := va_S.rf
  have hl := lv_entry ([.ref (tp j), .int record]) (n := 2) (Nat.le_of_ble_eq_true rfl)
  rw [lg_entry_eq]
  generalize (lg_sl ([.ref (tp j), .int record]) ++ List.replicate (2 - (lg_sl ([.ref (tp j), .int record])).length) Slot.unset).toArray = ls at hl ⊢
  have hl : lv_has ls 2 [(0, .ref (tp j)), (1, .int record)] := hl
  unfold wp_X9_add at hw
  have hf15 := hts (Cond.fieldLink RX9 15 "RunmergeOffice$Tape" "size" "I") (aw_l aw_1_66)
  have hiX9 : ∀ w ∈ u_ws RX9 TX9 2, w ∈ wqX9_add := fun w h => aw_l (aw_wsX90 w h)
  have hf9 := hts (Cond.fieldLink RX9 9 "RunmergeOffice$Tape" "held" "[I") (aw_l aw_1_65)
  refine lv_aload_n hx hb dX9_add_0 rfl (lv_at hl 0 rfl) ?_
  refine va_get (D := (dC, dI)) (ci := 11) (v := .int (n_ j)) (C := RX9) (T := TX9) (N := 2) hx hb hts hiX9 hown hK hP _ (TP_o hj_j) rfl 1 (by decide) hf15 (fun _ h9 => h9) rfl dX9_add_1 ?_
  refine lv_if_lt (tgt := 36) hx hb dX9_add_4 (by decide) (fun c_1 => ?_) (fun c_1 => ?_)
  · have hw := hw.1 c_1
    have hP9 := va_P.part (cx := []) hP [] rfl
    have hD9 := va_D.part (cx := []) hD [] (by decide) rfl
    exact W.vret hx hb hr (fun t ht hW => ⟨⟨(F_, n_, ()), rfl, hw, ⟨P_at ht hP9, hD9⟩⟩, hS.F ht⟩) hS.2.2 dX9_add_36
  · have hw := hw.2 c_1
    refine lv_aload_n hx hb dX9_add_7 rfl (lv_at hl 0 rfl) ?_
    refine va_get (D := (dC, dI)) (ci := 11) (v := .int (n_ j)) (C := RX9) (T := TX9) (N := 2) hx hb hts hiX9 hown hK hP _ (TP_o hj_j) rfl 1 (by decide) hf15 (fun _ h9 => h9) rfl dX9_add_8 ?_
    refine lv_bipush (v := 100) hx hb dX9_add_11 (by decide) ?_
    refine lv_icmp_ge (tgt := 36) hx hb dX9_add_13 (by decide) (fun c_2 => ?_) (fun c_2 => ?_)
    · have hw := hw.1 c_2
      have hP9 := va_P.part (cx := []) hP [] rfl
      have hD9 := va_D.part (cx := []) hD [] (by decide) rfl
      exact W.vret hx hb hr (fun t ht hW => ⟨⟨(F_, n_, ()), rfl, hw, ⟨P_at ht hP9, hD9⟩⟩, hS.F ht⟩) hS.2.2 dX9_add_36
    · have hw := hw.2 c_2
      refine lv_aload_n hx hb dX9_add_16 rfl (lv_at hl 0 rfl) ?_
      refine va_get (D := (dC, dI)) (ci := 11) (v := .ref (hd j)) (C := RX9) (T := TX9) (N := 2) hx hb hts hiX9 hown hK hP _ (TP_o hj_j) rfl 0 (by decide) hf9 (fun _ h9 => h9) rfl dX9_add_17 ?_
      refine lv_aload_n hx hb dX9_add_20 rfl (lv_at hl 0 rfl) ?_
      refine va_get (D := (dC, dI)) (ci := 11) (v := .int (n_ j)) (C := RX9) (T := TX9) (N := 2) hx hb hts hiX9 hown hK hP _ (TP_o hj_j) rfl 1 (by decide) hf15 (fun _ h9 => h9) rfl dX9_add_21 ?_
      refine lv_iload_n hx hb dX9_add_24 rfl (lv_at hl 1 rfl) ?_
      refine va_iast hx hb hK hP hD hS _ 0 (TP_a hj_j) rfl hw.1 dX9_add_25 (fun H_3 L_4 hP hD hS => ?_)
      have hw := hw.2
      rw [TP_seta hj_j] at hP hD
      have hP : va_P (dC, dI) vwCl ([] ++ TPl tp hd (g 0) (va_up F_ j (upd (F_ j) ((n_ j) : Int32).toNatClampNeg record)) n_) H_3 := hP
      have hD : va_D A ([] ++ TPl tp hd (g 0) (va_up F_ j (upd (F_ j) ((n_ j) : Int32).toNatClampNeg record)) n_) := hD
      refine lv_aload_n hx hb dX9_add_26 rfl (lv_at hl 0 rfl) ?_
      refine lv_dup hx hb dX9_add_27 rfl ?_
      refine va_get (D := (dC, dI)) (ci := 11) (v := .int (n_ j)) (C := RX9) (T := TX9) (N := 2) hx hb hts hiX9 hown hK hP _ (TP_o hj_j) rfl 1 (by decide) hf15 (fun _ h9 => h9) rfl dX9_add_28 ?_
      refine lv_iconst (v := 1) hx hb dX9_add_31 (by decide) ?_
      refine lv_iadd hx hb dX9_add_32 ?_
      refine lv_topi (fun x_5 ex_5 => ?_)
      have hw := hw x_5 ex_5
      refine va_put (D := (dC, dI)) (ci := 11) (v := .int x_5) (ty := .int) (C := RX9) (T := TX9) (N := 2) hx hb hts hiX9 tyX9 tyX9_ok nmX9 hown hK hP hD hS _ (TP_o hj_j) rfl 1 (by decide) hf15 (fun _ h9 => h9) rfl (by decide +kernel) rfl rfl (Nat.le_of_ble_eq_true rfl) dX9_add_33 (fun H_6 L_7 hP hD hS => ?_)
      rw [TP_setn hj_j] at hP hD
      have hP : va_P (dC, dI) vwCl ([] ++ TPl tp hd (g 0) (va_up F_ j (upd (F_ j) ((n_ j) : Int32).toNatClampNeg record)) (va_up n_ j x_5)) H_6 := hP
      have hD : va_D A ([] ++ TPl tp hd (g 0) (va_up F_ j (upd (F_ j) ((n_ j) : Int32).toNatClampNeg record)) (va_up n_ j x_5)) := hD
      have hP9 := va_P.part (cx := []) hP [] rfl
      have hD9 := va_D.part (cx := []) hD [] (by decide) rfl
      exact W.vret hx hb hr (fun t ht hW => ⟨⟨((va_up F_ j (upd (F_ j) ((n_ j) : Int32).toNatClampNeg record)), (va_up n_ j x_5), ()), rfl, hw, ⟨P_at ht hP9, hD9⟩⟩, hS.F ht⟩) hS.2.2 dX9_add_36
theorem dX9_takeOver_0 : decode cX9_takeOver 0 = .ok (.aload_n 1, 1) := by decide +kernel
theorem dX9_takeOver_1 : decode cX9_takeOver 1 = .ok (.getfield 15, 3) := by decide +kernel
theorem dX9_takeOver_4 : decode cX9_takeOver 4 = .ok (.bipush 100, 2) := by decide +kernel
theorem dX9_takeOver_6 : decode cX9_takeOver 6 = .ok (.invokestatic 28, 3) := by decide +kernel
theorem dX9_takeOver_9 : decode cX9_takeOver 9 = .ok (.istore_n 2, 1) := by decide +kernel
theorem dX9_takeOver_10 : decode cX9_takeOver 10 = .ok (.iconst 0, 1) := by decide +kernel
theorem dX9_takeOver_11 : decode cX9_takeOver 11 = .ok (.istore_n 3, 1) := by decide +kernel
theorem dX9_takeOver_35 : decode cX9_takeOver 35 = .ok (.aload_n 0, 1) := by decide +kernel
theorem dX9_takeOver_36 : decode cX9_takeOver 36 = .ok (.iload_n 2, 1) := by decide +kernel
theorem dX9_takeOver_37 : decode cX9_takeOver 37 = .ok (.putfield 15, 3) := by decide +kernel
theorem dX9_takeOver_40 : decode cX9_takeOver 40 = .ok (.return_, 1) := by decide +kernel
theorem dX9_takeOver_12 : decode cX9_takeOver 12 = .ok (.iload_n 3, 1) := by decide +kernel
theorem dX9_takeOver_13 : decode cX9_takeOver 13 = .ok (.iload_n 2, 1) := by decide +kernel
theorem dX9_takeOver_14 : decode cX9_takeOver 14 = .ok (.if_icmp .ge 21, 3) := by decide +kernel
theorem dX9_takeOver_17 : decode cX9_takeOver 17 = .ok (.aload_n 0, 1) := by decide +kernel
theorem dX9_takeOver_18 : decode cX9_takeOver 18 = .ok (.getfield 9, 3) := by decide +kernel
theorem dX9_takeOver_21 : decode cX9_takeOver 21 = .ok (.iload_n 3, 1) := by decide +kernel
theorem dX9_takeOver_22 : decode cX9_takeOver 22 = .ok (.aload_n 1, 1) := by decide +kernel
theorem dX9_takeOver_23 : decode cX9_takeOver 23 = .ok (.getfield 9, 3) := by decide +kernel
theorem dX9_takeOver_26 : decode cX9_takeOver 26 = .ok (.iload_n 3, 1) := by decide +kernel
theorem dX9_takeOver_27 : decode cX9_takeOver 27 = .ok (.iaload, 1) := by decide +kernel
theorem dX9_takeOver_28 : decode cX9_takeOver 28 = .ok (.iastore, 1) := by decide +kernel
theorem dX9_takeOver_29 : decode cX9_takeOver 29 = .ok (.iinc 3 1, 3) := by decide +kernel
theorem dX9_takeOver_32 : decode cX9_takeOver 32 = .ok (.goto (-20), 3) := by decide +kernel
abbrev Wa_X9_takeOver (g : Nat → ClassId) (tp : Nat → Nat) (hd : Nat → Nat) (F_ : Nat → Nat → Int32) (n_ : Nat → Int32) : va_W := ([] ++ TPl tp hd (g 0) F_ n_)
abbrev Wb_X9_takeOver (g : Nat → ClassId) (tp : Nat → Nat) (hd : Nat → Nat) (u : (Nat → Nat → Int32) × (Nat → Int32) × Unit) : va_W := ([] ++ TPl tp hd (g 0) u.1 u.2.1)
set_option maxHeartbeats 8000000 in
set_option maxRecDepth 100000 in
theorem c_X9_takeOver (l : Launch) (dC : Nat → ClassId) (dI : Nat → Nat → Nat) (g : Nat → ClassId) (tp hd : Nat → Nat) (F_ : Nat → Nat → Int32) (n_ : Nat → Int32) (j : Nat) (other : Nat) (hj_j : j < 18) (hj_other : other < 18) (Q : (Nat → Nat → Int32) → (Nat → Int32) → Prop) (hw : wp_X9_takeOver j other F_ n_ Q) (sz : Nat) : Met l yX9_takeOver wqX9_takeOver ({ frames := 1, cells := 0, slots := 0, locals := 13 }) (va_Pc [.ref (tp j), .ref (tp other)] (PG (dC, dI) g (Wa_X9_takeOver g tp hd F_ n_) sz)) (va_Qv (fun (u : (Nat → Nat → Int32) × (Nat → Int32) × Unit) => Q u.1 u.2.1) (fun (u : (Nat → Nat → Int32) × (Nat → Int32) × Unit) t9 => va_P (dC, dI) vwCl (Wb_X9_takeOver g tp hd u) t9.heap ∧ va_D (va_A (Wa_X9_takeOver g tp hd F_ n_) sz) (Wb_X9_takeOver g tp hd u)) (va_A (Wa_X9_takeOver g tp hd F_ n_) sz)) 0 0 (va_A (Wa_X9_takeOver g tp hd F_ n_) sz) := by
  refine Met.ofW (cc := cX9_takeOver) (maxL := 4) (ret := none) (by decide) rfl ?_
  intro p e s m args below meth c s₁ B hml hv
  obtain ⟨rfl, hsz, hP, hK, hD0, hG⟩ := hv
  have hx := B.exec
  have hb := B.bytes
  have hr := B.returns
  have hts := atoms_spec (ws := wqX9_takeOver) B.pre
  have hown : s.vm.findClass RX9 = some m.cls := findClass_of_methodNamed B.named
  have hlocks := B.notSynchronized
  subst hsz
  have hD := hD0.self (sz := s.heap.size)
  generalize hAe : va_A (Wa_X9_takeOver g tp hd F_ n_) s.heap.size = A at hD hG ⊢
  have hA : ∀ q : Nat, s.heap.size ≤ q → A q := fun q h => by rw [← hAe]; exact Or.inr h
  have hS : va_S A s.heap s.heap [] := va_S.rf
  have hl := lv_entry ([.ref (tp j), .ref (tp other)]) (n := 4) (Nat.le_of_ble_eq_true rfl)
  rw [lg_entry_eq]
  generalize (lg_sl ([.ref (tp j), .ref (tp other)]) ++ List.replicate (4 - (lg_sl ([.ref (tp j), .ref (tp other)])).length) Slot.unset).toArray = ls at hl ⊢
  have hl : lv_has ls 4 [(0, .ref (tp j)), (1, .ref (tp other))] := hl
  unfold wp_X9_takeOver at hw
  have hf15 := hts (Cond.fieldLink RX9 15 "RunmergeOffice$Tape" "size" "I") (aw_l aw_1_66)
  have hiX9 : ∀ w ∈ u_ws RX9 TX9 2, w ∈ wqX9_takeOver := fun w h => aw_l (aw_wsX90 w h)
  have hmmin28_0 := hts (Cond.methodLink RX9 28 Lib.Math.min.name) (aw_l aw_3_140)
  have hmmin28_1 := hts (Cond.static Lib.Math.min.name) (aw_l aw_3_141)
  have hmmin28_2 := hts (Cond.initialized "java/lang/Math") (aw_l aw_1_19)
  have hmmin28_3 := hts (Cond.code Lib.Math.min.name Lib.Math.min.code 2 (some .int)) (aw_l aw_3_142)
  have hf9 := hts (Cond.fieldLink RX9 9 "RunmergeOffice$Tape" "held" "[I") (aw_l aw_1_65)
  refine lv_aload_n hx hb dX9_takeOver_0 rfl (lv_at hl 1 rfl) ?_
  refine va_get (D := (dC, dI)) (ci := 11) (v := .int (n_ other)) (C := RX9) (T := TX9) (N := 2) hx hb hts hiX9 hown hK hP _ (TP_o hj_other) rfl 1 (by decide) hf15 (fun _ h9 => h9) rfl dX9_takeOver_1 ?_
  refine lv_bipush (v := 100) hx hb dX9_takeOver_4 (by decide) ?_
  refine va_mmin hx hb (hml.trans hl.1.symm) hown hmmin28_0 hmmin28_1 hmmin28_2 hmmin28_3 (Nat.le_of_ble_eq_true rfl) (Nat.le_of_ble_eq_true rfl) (Nat.le_of_ble_eq_true rfl) (Nat.le_of_ble_eq_true rfl) dX9_takeOver_6 ?_
  refine lv_topi (fun x_1 ex_1 => ?_)
  have hw := hw x_1 ex_1
  refine lv_istore_n (lv' := [(2, .int x_1), (0, .ref (tp j)), (1, .ref (tp other))]) hx hb dX9_takeOver_9 rfl hl (by decide) rfl (fun ls hl => ?_)
  refine lv_iconst (v := 0) hx hb dX9_takeOver_10 (by decide) ?_
  refine lv_istore_n (lv' := [(3, .int 0), (2, .int x_1), (0, .ref (tp j)), (1, .ref (tp other))]) hx hb dX9_takeOver_11 rfl hl (by decide) rfl (fun ls hl => ?_)
  refine W_abs (fun QM hQM => ?_)
  have EX12_35 : ∀ (F__4 : Nat → Nat → Int32) (H : Heap) (locs : List Loc), (wx_X9_takeOver_12_35 j n_ Q x_1) F__4 → va_P (dC, dI) vwCl ([] ++ TPl tp hd (g 0) F__4 n_) H → va_D A ([] ++ TPl tp hd (g 0) F__4 n_) → va_S A s.heap H locs → ∀ (ls : Array Slot), lv_has ls 4 [(0, .ref (tp j)), (2, .int x_1)] → W p l e (headSpec wqX9_takeOver ({ frames := 1, cells := 0, slots := 0, locals := 13 })).room s m ([.ref (tp j), .ref (tp other)] : List Value).toArray below meth c H locs 0 0 QM (F0 m 35 ls []) := by
    intro F__4 H locs hw hP hD hS ls hl
    refine lv_aload_n hx hb dX9_takeOver_35 rfl (lv_at hl 0 rfl) ?_
    refine lv_iload_n hx hb dX9_takeOver_36 rfl (lv_at hl 1 rfl) ?_
    refine va_put (D := (dC, dI)) (ci := 11) (v := .int x_1) (ty := .int) (C := RX9) (T := TX9) (N := 2) hx hb hts hiX9 tyX9 tyX9_ok nmX9 hown hK hP hD hS _ (TP_o hj_j) rfl 1 (by decide) hf15 (fun _ h9 => h9) rfl (by decide +kernel) rfl rfl (Nat.le_of_ble_eq_true rfl) dX9_takeOver_37 (fun H_5 L_6 hP hD hS => ?_)
    rw [TP_setn hj_j] at hP hD
    have hP : va_P (dC, dI) vwCl ([] ++ TPl tp hd (g 0) F__4 (va_up n_ j x_1)) H_5 := hP
    have hD : va_D A ([] ++ TPl tp hd (g 0) F__4 (va_up n_ j x_1)) := hD
    subst hQM
    have hP9 := va_P.part (cx := []) hP [] rfl
    have hD9 := va_D.part (cx := []) hD [] (by decide) rfl
    exact W.vret hx hb hr (fun t ht hW => ⟨⟨(F__4, (va_up n_ j x_1), ()), rfl, hw, ⟨P_at ht hP9, hD9⟩⟩, hS.F ht⟩) hS.2.2 dX9_takeOver_40
  have LOOP12 : ∀ (n12 : Nat) (v3_2 : Int32) (F__3 : Nat → Nat → Int32) (H : Heap) (locs : List Loc), wl_X9_takeOver_12 j other x_1 (wx_X9_takeOver_12_35 j n_ Q x_1) n12 v3_2 F__3 → va_P (dC, dI) vwCl ([] ++ TPl tp hd (g 0) F__3 n_) H → va_D A ([] ++ TPl tp hd (g 0) F__3 n_) → va_S A s.heap H locs → ∀ (ls : Array Slot), lv_has ls 4 [(0, .ref (tp j)), (1, .ref (tp other)), (2, .int x_1), (3, .int v3_2)] → W p l e (headSpec wqX9_takeOver ({ frames := 1, cells := 0, slots := 0, locals := 13 })).room s m ([.ref (tp j), .ref (tp other)] : List Value).toArray below meth c H locs 0 0 QM (F0 m 12 ls []) := by
    intro n12
    induction n12 with
    | zero =>
      intro v3_2 F__3 H locs hw hP hD hS ls hl
      exact False.elim hw
    | succ n12 ih12 =>
      intro v3_2 F__3 H locs hw hP hD hS ls hl
      rw [wl_X9_takeOver_12_s] at hw
      refine lv_iload_n hx hb dX9_takeOver_12 rfl (lv_at hl 3 rfl) ?_
      refine lv_iload_n hx hb dX9_takeOver_13 rfl (lv_at hl 2 rfl) ?_
      refine lv_icmp_ge (tgt := 35) hx hb dX9_takeOver_14 (by decide) (fun c_7 => ?_) (fun c_7 => ?_)
      · have hw := hw.1 c_7
        exact EX12_35 F__3 _ _ hw (hP.part [] rfl) (hD.part [] (by decide) rfl) hS _ (lv_sub hl [0, 2] rfl)
      · have hw := hw.2 c_7
        refine lv_aload_n hx hb dX9_takeOver_17 rfl (lv_at hl 0 rfl) ?_
        refine va_get (D := (dC, dI)) (ci := 11) (v := .ref (hd j)) (C := RX9) (T := TX9) (N := 2) hx hb hts hiX9 hown hK hP _ (TP_o hj_j) rfl 0 (by decide) hf9 (fun _ h9 => h9) rfl dX9_takeOver_18 ?_
        refine lv_iload_n hx hb dX9_takeOver_21 rfl (lv_at hl 3 rfl) ?_
        refine lv_aload_n hx hb dX9_takeOver_22 rfl (lv_at hl 1 rfl) ?_
        refine va_get (D := (dC, dI)) (ci := 11) (v := .ref (hd other)) (C := RX9) (T := TX9) (N := 2) hx hb hts hiX9 hown hK hP _ (TP_o hj_other) rfl 0 (by decide) hf9 (fun _ h9 => h9) rfl dX9_takeOver_23 ?_
        refine lv_iload_n hx hb dX9_takeOver_26 rfl (lv_at hl 3 rfl) ?_
        refine va_iald hx hb hK hP _ 0 (TP_a hj_other) rfl hw.1 dX9_takeOver_27 ?_
        have hw := hw.2
        refine lv_topi (fun x_8 ex_8 => ?_)
        have hw := hw x_8 ex_8
        refine va_iast hx hb hK hP hD hS _ 0 (TP_a hj_j) rfl hw.1 dX9_takeOver_28 (fun H_9 L_10 hP hD hS => ?_)
        have hw := hw.2
        rw [TP_seta hj_j] at hP hD
        have hP : va_P (dC, dI) vwCl ([] ++ TPl tp hd (g 0) (va_up F__3 j (upd (F__3 j) v3_2.toNatClampNeg x_8)) n_) H_9 := hP
        have hD : va_D A ([] ++ TPl tp hd (g 0) (va_up F__3 j (upd (F__3 j) v3_2.toNatClampNeg x_8)) n_) := hD
        obtain ⟨x_11, ex_11⟩ : ∃ y : Int32, y = v3_2 + 1 := ⟨_, rfl⟩
        have hw := hw x_11 ex_11
        refine lv_iinc (v := x_11) (lv' := [(3, .int x_11), (0, .ref (tp j)), (1, .ref (tp other)), (2, .int x_1)]) hx hb dX9_takeOver_29 hl (k := 3) rfl (by rw [ex_11]; rfl) (by decide) rfl (fun ls hl => ?_)
        refine lv_goto (tgt := 12) hx hb dX9_takeOver_32 (by decide) ?_
        exact ih12 x_11 (va_up F__3 j (upd (F__3 j) v3_2.toNatClampNeg x_8)) _ _ hw (hP.part [] rfl) (hD.part [] (by decide) rfl) hS _ (lv_sub hl [1, 2, 3, 0] rfl)
  obtain ⟨n12, hw⟩ := hw
  exact LOOP12 n12 0 F_ _ _ hw (hP.part [] rfl) (hD.part [] (by decide) rfl) hS _ (lv_sub hl [2, 3, 1, 0] rfl)
theorem dX9_reverse_0 : decode cX9_reverse 0 = .ok (.aload_n 0, 1) := by decide +kernel
theorem dX9_reverse_1 : decode cX9_reverse 1 = .ok (.getfield 15, 3) := by decide +kernel
theorem dX9_reverse_4 : decode cX9_reverse 4 = .ok (.bipush 100, 2) := by decide +kernel
theorem dX9_reverse_6 : decode cX9_reverse 6 = .ok (.invokestatic 28, 3) := by decide +kernel
theorem dX9_reverse_9 : decode cX9_reverse 9 = .ok (.istore_n 1, 1) := by decide +kernel
theorem dX9_reverse_10 : decode cX9_reverse 10 = .ok (.iconst 0, 1) := by decide +kernel
theorem dX9_reverse_11 : decode cX9_reverse 11 = .ok (.istore_n 2, 1) := by decide +kernel
theorem dX9_reverse_59 : decode cX9_reverse 59 = .ok (.return_, 1) := by decide +kernel
theorem dX9_reverse_12 : decode cX9_reverse 12 = .ok (.iload_n 2, 1) := by decide +kernel
theorem dX9_reverse_13 : decode cX9_reverse 13 = .ok (.iload_n 1, 1) := by decide +kernel
theorem dX9_reverse_14 : decode cX9_reverse 14 = .ok (.iconst 2, 1) := by decide +kernel
theorem dX9_reverse_15 : decode cX9_reverse 15 = .ok (.idiv, 1) := by decide +kernel
theorem dX9_reverse_16 : decode cX9_reverse 16 = .ok (.if_icmp .ge 43, 3) := by decide +kernel
theorem dX9_reverse_19 : decode cX9_reverse 19 = .ok (.aload_n 0, 1) := by decide +kernel
theorem dX9_reverse_20 : decode cX9_reverse 20 = .ok (.getfield 9, 3) := by decide +kernel
theorem dX9_reverse_23 : decode cX9_reverse 23 = .ok (.iload_n 2, 1) := by decide +kernel
theorem dX9_reverse_24 : decode cX9_reverse 24 = .ok (.iaload, 1) := by decide +kernel
theorem dX9_reverse_25 : decode cX9_reverse 25 = .ok (.istore_n 3, 1) := by decide +kernel
theorem dX9_reverse_26 : decode cX9_reverse 26 = .ok (.aload_n 0, 1) := by decide +kernel
theorem dX9_reverse_27 : decode cX9_reverse 27 = .ok (.getfield 9, 3) := by decide +kernel
theorem dX9_reverse_30 : decode cX9_reverse 30 = .ok (.iload_n 2, 1) := by decide +kernel
theorem dX9_reverse_31 : decode cX9_reverse 31 = .ok (.aload_n 0, 1) := by decide +kernel
theorem dX9_reverse_32 : decode cX9_reverse 32 = .ok (.getfield 9, 3) := by decide +kernel
theorem dX9_reverse_35 : decode cX9_reverse 35 = .ok (.iload_n 1, 1) := by decide +kernel
theorem dX9_reverse_36 : decode cX9_reverse 36 = .ok (.iconst 1, 1) := by decide +kernel
theorem dX9_reverse_37 : decode cX9_reverse 37 = .ok (.isub, 1) := by decide +kernel
theorem dX9_reverse_38 : decode cX9_reverse 38 = .ok (.iload_n 2, 1) := by decide +kernel
theorem dX9_reverse_39 : decode cX9_reverse 39 = .ok (.isub, 1) := by decide +kernel
theorem dX9_reverse_40 : decode cX9_reverse 40 = .ok (.iaload, 1) := by decide +kernel
theorem dX9_reverse_41 : decode cX9_reverse 41 = .ok (.iastore, 1) := by decide +kernel
theorem dX9_reverse_42 : decode cX9_reverse 42 = .ok (.aload_n 0, 1) := by decide +kernel
theorem dX9_reverse_43 : decode cX9_reverse 43 = .ok (.getfield 9, 3) := by decide +kernel
theorem dX9_reverse_46 : decode cX9_reverse 46 = .ok (.iload_n 1, 1) := by decide +kernel
theorem dX9_reverse_47 : decode cX9_reverse 47 = .ok (.iconst 1, 1) := by decide +kernel
theorem dX9_reverse_48 : decode cX9_reverse 48 = .ok (.isub, 1) := by decide +kernel
theorem dX9_reverse_49 : decode cX9_reverse 49 = .ok (.iload_n 2, 1) := by decide +kernel
theorem dX9_reverse_50 : decode cX9_reverse 50 = .ok (.isub, 1) := by decide +kernel
theorem dX9_reverse_51 : decode cX9_reverse 51 = .ok (.iload_n 3, 1) := by decide +kernel
theorem dX9_reverse_52 : decode cX9_reverse 52 = .ok (.iastore, 1) := by decide +kernel
theorem dX9_reverse_53 : decode cX9_reverse 53 = .ok (.iinc 2 1, 3) := by decide +kernel
theorem dX9_reverse_56 : decode cX9_reverse 56 = .ok (.goto (-44), 3) := by decide +kernel
abbrev Wa_X9_reverse (g : Nat → ClassId) (tp : Nat → Nat) (hd : Nat → Nat) (F_ : Nat → Nat → Int32) (n_ : Nat → Int32) : va_W := ([] ++ TPl tp hd (g 0) F_ n_)
abbrev Wb_X9_reverse (g : Nat → ClassId) (tp : Nat → Nat) (hd : Nat → Nat) (n_ : Nat → Int32) (u : (Nat → Nat → Int32) × Unit) : va_W := ([] ++ TPl tp hd (g 0) u.1 n_)
set_option maxHeartbeats 8000000 in
set_option maxRecDepth 100000 in
theorem c_X9_reverse (l : Launch) (dC : Nat → ClassId) (dI : Nat → Nat → Nat) (g : Nat → ClassId) (tp hd : Nat → Nat) (F_ : Nat → Nat → Int32) (n_ : Nat → Int32) (j : Nat) (hj_j : j < 18) (Q : (Nat → Nat → Int32) → Prop) (hw : wp_X9_reverse j F_ n_ Q) (sz : Nat) : Met l yX9_reverse wqX9_reverse ({ frames := 1, cells := 0, slots := 0, locals := 13 }) (va_Pc [.ref (tp j)] (PG (dC, dI) g (Wa_X9_reverse g tp hd F_ n_) sz)) (va_Qv (fun (u : (Nat → Nat → Int32) × Unit) => Q u.1) (fun (u : (Nat → Nat → Int32) × Unit) t9 => va_P (dC, dI) vwCl (Wb_X9_reverse g tp hd n_ u) t9.heap ∧ va_D (va_A (Wa_X9_reverse g tp hd F_ n_) sz) (Wb_X9_reverse g tp hd n_ u)) (va_A (Wa_X9_reverse g tp hd F_ n_) sz)) 0 0 (va_A (Wa_X9_reverse g tp hd F_ n_) sz) := by
  refine Met.ofW (cc := cX9_reverse) (maxL := 4) (ret := none) (by decide) rfl ?_
  intro p e s m args below meth c s₁ B hml hv
  obtain ⟨rfl, hsz, hP, hK, hD0, hG⟩ := hv
  have hx := B.exec
  have hb := B.bytes
  have hr := B.returns
  have hts := atoms_spec (ws := wqX9_reverse) B.pre
  have hown : s.vm.findClass RX9 = some m.cls := findClass_of_methodNamed B.named
  have hlocks := B.notSynchronized
  subst hsz
  have hD := hD0.self (sz := s.heap.size)
  generalize hAe : va_A (Wa_X9_reverse g tp hd F_ n_) s.heap.size = A at hD hG ⊢
  have hA : ∀ q : Nat, s.heap.size ≤ q → A q := fun q h => by rw [← hAe]; exact Or.inr h
  have hS : va_S A s.heap s.heap [] := va_S.rf
  have hl := lv_entry ([.ref (tp j)]) (n := 4) (Nat.le_of_ble_eq_true rfl)
  rw [lg_entry_eq]
  generalize (lg_sl ([.ref (tp j)]) ++ List.replicate (4 - (lg_sl ([.ref (tp j)])).length) Slot.unset).toArray = ls at hl ⊢
  have hl : lv_has ls 4 [(0, .ref (tp j))] := hl
  unfold wp_X9_reverse at hw
  have hf15 := hts (Cond.fieldLink RX9 15 "RunmergeOffice$Tape" "size" "I") (aw_l aw_1_66)
  have hiX9 : ∀ w ∈ u_ws RX9 TX9 2, w ∈ wqX9_reverse := fun w h => aw_l (aw_wsX90 w h)
  have hmmin28_0 := hts (Cond.methodLink RX9 28 Lib.Math.min.name) (aw_l aw_3_140)
  have hmmin28_1 := hts (Cond.static Lib.Math.min.name) (aw_l aw_3_141)
  have hmmin28_2 := hts (Cond.initialized "java/lang/Math") (aw_l aw_1_19)
  have hmmin28_3 := hts (Cond.code Lib.Math.min.name Lib.Math.min.code 2 (some .int)) (aw_l aw_3_142)
  have hf9 := hts (Cond.fieldLink RX9 9 "RunmergeOffice$Tape" "held" "[I") (aw_l aw_1_65)
  refine lv_aload_n hx hb dX9_reverse_0 rfl (lv_at hl 0 rfl) ?_
  refine va_get (D := (dC, dI)) (ci := 11) (v := .int (n_ j)) (C := RX9) (T := TX9) (N := 2) hx hb hts hiX9 hown hK hP _ (TP_o hj_j) rfl 1 (by decide) hf15 (fun _ h9 => h9) rfl dX9_reverse_1 ?_
  refine lv_bipush (v := 100) hx hb dX9_reverse_4 (by decide) ?_
  refine va_mmin hx hb (hml.trans hl.1.symm) hown hmmin28_0 hmmin28_1 hmmin28_2 hmmin28_3 (Nat.le_of_ble_eq_true rfl) (Nat.le_of_ble_eq_true rfl) (Nat.le_of_ble_eq_true rfl) (Nat.le_of_ble_eq_true rfl) dX9_reverse_6 ?_
  refine lv_topi (fun x_1 ex_1 => ?_)
  have hw := hw x_1 ex_1
  refine lv_istore_n (lv' := [(1, .int x_1), (0, .ref (tp j))]) hx hb dX9_reverse_9 rfl hl (by decide) rfl (fun ls hl => ?_)
  refine lv_iconst (v := 0) hx hb dX9_reverse_10 (by decide) ?_
  refine lv_istore_n (lv' := [(2, .int 0), (1, .int x_1), (0, .ref (tp j))]) hx hb dX9_reverse_11 rfl hl (by decide) rfl (fun ls hl => ?_)
  refine W_abs (fun QM hQM => ?_)
  have EX12_59 : ∀ (F__4 : Nat → Nat → Int32) (H : Heap) (locs : List Loc), (wx_X9_reverse_12_59 Q) F__4 → va_P (dC, dI) vwCl ([] ++ TPl tp hd (g 0) F__4 n_) H → va_D A ([] ++ TPl tp hd (g 0) F__4 n_) → va_S A s.heap H locs → ∀ (ls : Array Slot), lv_has ls 4 [] → W p l e (headSpec wqX9_reverse ({ frames := 1, cells := 0, slots := 0, locals := 13 })).room s m ([.ref (tp j)] : List Value).toArray below meth c H locs 0 0 QM (F0 m 59 ls []) := by
    intro F__4 H locs hw hP hD hS ls hl
    subst hQM
    have hP9 := va_P.part (cx := []) hP [] rfl
    have hD9 := va_D.part (cx := []) hD [] (by decide) rfl
    exact W.vret hx hb hr (fun t ht hW => ⟨⟨(F__4, ()), rfl, hw, ⟨P_at ht hP9, hD9⟩⟩, hS.F ht⟩) hS.2.2 dX9_reverse_59
  have LOOP12 : ∀ (n12 : Nat) (v2_2 : Int32) (F__3 : Nat → Nat → Int32) (H : Heap) (locs : List Loc), wl_X9_reverse_12 j x_1 (wx_X9_reverse_12_59 Q) n12 v2_2 F__3 → va_P (dC, dI) vwCl ([] ++ TPl tp hd (g 0) F__3 n_) H → va_D A ([] ++ TPl tp hd (g 0) F__3 n_) → va_S A s.heap H locs → ∀ (ls : Array Slot), lv_has ls 4 [(0, .ref (tp j)), (1, .int x_1), (2, .int v2_2)] → W p l e (headSpec wqX9_reverse ({ frames := 1, cells := 0, slots := 0, locals := 13 })).room s m ([.ref (tp j)] : List Value).toArray below meth c H locs 0 0 QM (F0 m 12 ls []) := by
    intro n12
    induction n12 with
    | zero =>
      intro v2_2 F__3 H locs hw hP hD hS ls hl
      exact False.elim hw
    | succ n12 ih12 =>
      intro v2_2 F__3 H locs hw hP hD hS ls hl
      rw [wl_X9_reverse_12_s] at hw
      refine lv_iload_n hx hb dX9_reverse_12 rfl (lv_at hl 2 rfl) ?_
      refine lv_iload_n hx hb dX9_reverse_13 rfl (lv_at hl 1 rfl) ?_
      refine lv_iconst (v := 2) hx hb dX9_reverse_14 (by decide) ?_
      refine lv_idiv hx hb dX9_reverse_15 (by decide) ?_
      refine lv_topi (fun x_5 ex_5 => ?_)
      have hw := hw x_5 ex_5
      refine lv_icmp_ge (tgt := 59) hx hb dX9_reverse_16 (by decide) (fun c_6 => ?_) (fun c_6 => ?_)
      · have hw := hw.1 c_6
        exact EX12_59 F__3 _ _ hw (hP.part [] rfl) (hD.part [] (by decide) rfl) hS _ (lv_sub hl [] rfl)
      · have hw := hw.2 c_6
        refine lv_aload_n hx hb dX9_reverse_19 rfl (lv_at hl 0 rfl) ?_
        refine va_get (D := (dC, dI)) (ci := 11) (v := .ref (hd j)) (C := RX9) (T := TX9) (N := 2) hx hb hts hiX9 hown hK hP _ (TP_o hj_j) rfl 0 (by decide) hf9 (fun _ h9 => h9) rfl dX9_reverse_20 ?_
        refine lv_iload_n hx hb dX9_reverse_23 rfl (lv_at hl 2 rfl) ?_
        refine va_iald hx hb hK hP _ 0 (TP_a hj_j) rfl hw.1 dX9_reverse_24 ?_
        have hw := hw.2
        refine lv_topi (fun x_7 ex_7 => ?_)
        have hw := hw x_7 ex_7
        refine lv_istore_n (lv' := [(3, .int x_7), (0, .ref (tp j)), (1, .int x_1), (2, .int v2_2)]) hx hb dX9_reverse_25 rfl hl (by decide) rfl (fun ls hl => ?_)
        refine lv_aload_n hx hb dX9_reverse_26 rfl (lv_at hl 1 rfl) ?_
        refine va_get (D := (dC, dI)) (ci := 11) (v := .ref (hd j)) (C := RX9) (T := TX9) (N := 2) hx hb hts hiX9 hown hK hP _ (TP_o hj_j) rfl 0 (by decide) hf9 (fun _ h9 => h9) rfl dX9_reverse_27 ?_
        refine lv_iload_n hx hb dX9_reverse_30 rfl (lv_at hl 3 rfl) ?_
        refine lv_aload_n hx hb dX9_reverse_31 rfl (lv_at hl 1 rfl) ?_
        refine va_get (D := (dC, dI)) (ci := 11) (v := .ref (hd j)) (C := RX9) (T := TX9) (N := 2) hx hb hts hiX9 hown hK hP _ (TP_o hj_j) rfl 0 (by decide) hf9 (fun _ h9 => h9) rfl dX9_reverse_32 ?_
        refine lv_iload_n hx hb dX9_reverse_35 rfl (lv_at hl 2 rfl) ?_
        refine lv_iconst (v := 1) hx hb dX9_reverse_36 (by decide) ?_
        refine lv_isub hx hb dX9_reverse_37 ?_
        refine lv_topi (fun x_8 ex_8 => ?_)
        have hw := hw x_8 ex_8
        refine lv_iload_n hx hb dX9_reverse_38 rfl (lv_at hl 3 rfl) ?_
        refine lv_isub hx hb dX9_reverse_39 ?_
        refine lv_topi (fun x_9 ex_9 => ?_)
        have hw := hw x_9 ex_9
        refine va_iald hx hb hK hP _ 0 (TP_a hj_j) rfl hw.1 dX9_reverse_40 ?_
        have hw := hw.2
        refine lv_topi (fun x_10 ex_10 => ?_)
        have hw := hw x_10 ex_10
        refine va_iast hx hb hK hP hD hS _ 0 (TP_a hj_j) rfl hw.1 dX9_reverse_41 (fun H_11 L_12 hP hD hS => ?_)
        have hw := hw.2
        rw [TP_seta hj_j] at hP hD
        have hP : va_P (dC, dI) vwCl ([] ++ TPl tp hd (g 0) (va_up F__3 j (upd (F__3 j) v2_2.toNatClampNeg x_10)) n_) H_11 := hP
        have hD : va_D A ([] ++ TPl tp hd (g 0) (va_up F__3 j (upd (F__3 j) v2_2.toNatClampNeg x_10)) n_) := hD
        refine lv_aload_n hx hb dX9_reverse_42 rfl (lv_at hl 1 rfl) ?_
        refine va_get (D := (dC, dI)) (ci := 11) (v := .ref (hd j)) (C := RX9) (T := TX9) (N := 2) hx hb hts hiX9 hown hK hP _ (TP_o hj_j) rfl 0 (by decide) hf9 (fun _ h9 => h9) rfl dX9_reverse_43 ?_
        refine lv_iload_n hx hb dX9_reverse_46 rfl (lv_at hl 2 rfl) ?_
        refine lv_iconst (v := 1) hx hb dX9_reverse_47 (by decide) ?_
        refine lv_isub hx hb dX9_reverse_48 ?_
        refine lv_topi (fun x_13 ex_13 => ?_)
        have hw := hw x_13 ex_13
        refine lv_iload_n hx hb dX9_reverse_49 rfl (lv_at hl 3 rfl) ?_
        refine lv_isub hx hb dX9_reverse_50 ?_
        refine lv_topi (fun x_14 ex_14 => ?_)
        have hw := hw x_14 ex_14
        refine lv_iload_n hx hb dX9_reverse_51 rfl (lv_at hl 0 rfl) ?_
        refine va_iast hx hb hK hP hD hS _ 0 (TP_a hj_j) rfl hw.1 dX9_reverse_52 (fun H_15 L_16 hP hD hS => ?_)
        have hw := hw.2
        rw [TP_seta hj_j] at hP hD
        have hP : va_P (dC, dI) vwCl ([] ++ TPl tp hd (g 0) (va_up (va_up F__3 j (upd (F__3 j) v2_2.toNatClampNeg x_10)) j (upd ((va_up F__3 j (upd (F__3 j) v2_2.toNatClampNeg x_10)) j) x_14.toNatClampNeg x_7)) n_) H_15 := hP
        have hD : va_D A ([] ++ TPl tp hd (g 0) (va_up (va_up F__3 j (upd (F__3 j) v2_2.toNatClampNeg x_10)) j (upd ((va_up F__3 j (upd (F__3 j) v2_2.toNatClampNeg x_10)) j) x_14.toNatClampNeg x_7)) n_) := hD
        obtain ⟨x_17, ex_17⟩ : ∃ y : Int32, y = v2_2 + 1 := ⟨_, rfl⟩
        have hw := hw x_17 ex_17
        refine lv_iinc (v := x_17) (lv' := [(2, .int x_17), (3, .int x_7), (0, .ref (tp j)), (1, .int x_1)]) hx hb dX9_reverse_53 hl (k := 3) rfl (by rw [ex_17]; rfl) (by decide) rfl (fun ls hl => ?_)
        refine lv_goto (tgt := 12) hx hb dX9_reverse_56 (by decide) ?_
        exact ih12 x_17 (va_up (va_up F__3 j (upd (F__3 j) v2_2.toNatClampNeg x_10)) j (upd ((va_up F__3 j (upd (F__3 j) v2_2.toNatClampNeg x_10)) j) x_14.toNatClampNeg x_7)) _ _ hw (hP.part [] rfl) (hD.part [] (by decide) rfl) hS _ (lv_sub hl [2, 3, 0] rfl)
  obtain ⟨n12, hw⟩ := hw
  exact LOOP12 n12 0 F_ _ _ hw (hP.part [] rfl) (hD.part [] (by decide) rfl) hS _ (lv_sub hl [2, 1, 0] rfl)
theorem dX9_isInOrder_0 : decode cX9_isInOrder 0 = .ok (.iconst 1, 1) := by decide +kernel
theorem dX9_isInOrder_1 : decode cX9_isInOrder 1 = .ok (.istore_n 3, 1) := by decide +kernel
theorem dX9_isInOrder_35 : decode cX9_isInOrder 35 = .ok (.iconst 0, 1) := by decide +kernel
theorem dX9_isInOrder_36 : decode cX9_isInOrder 36 = .ok (.ireturn, 1) := by decide +kernel
theorem dX9_isInOrder_43 : decode cX9_isInOrder 43 = .ok (.iconst 1, 1) := by decide +kernel
theorem dX9_isInOrder_44 : decode cX9_isInOrder 44 = .ok (.ireturn, 1) := by decide +kernel
theorem dX9_isInOrder_2 : decode cX9_isInOrder 2 = .ok (.iload_n 3, 1) := by decide +kernel
theorem dX9_isInOrder_3 : decode cX9_isInOrder 3 = .ok (.aload_n 0, 1) := by decide +kernel
theorem dX9_isInOrder_4 : decode cX9_isInOrder 4 = .ok (.getfield 15, 3) := by decide +kernel
theorem dX9_isInOrder_7 : decode cX9_isInOrder 7 = .ok (.if_icmp .ge 36, 3) := by decide +kernel
theorem dX9_isInOrder_10 : decode cX9_isInOrder 10 = .ok (.aload_n 1, 1) := by decide +kernel
theorem dX9_isInOrder_11 : decode cX9_isInOrder 11 = .ok (.aload_n 0, 1) := by decide +kernel
theorem dX9_isInOrder_12 : decode cX9_isInOrder 12 = .ok (.iload_n 3, 1) := by decide +kernel
theorem dX9_isInOrder_13 : decode cX9_isInOrder 13 = .ok (.invokevirtual 19, 3) := by decide +kernel
theorem dX9_isInOrder_16 : decode cX9_isInOrder 16 = .ok (.iload_n 2, 1) := by decide +kernel
theorem dX9_isInOrder_17 : decode cX9_isInOrder 17 = .ok (.invokevirtual 34, 3) := by decide +kernel
theorem dX9_isInOrder_20 : decode cX9_isInOrder 20 = .ok (.aload_n 1, 1) := by decide +kernel
theorem dX9_isInOrder_21 : decode cX9_isInOrder 21 = .ok (.aload_n 0, 1) := by decide +kernel
theorem dX9_isInOrder_22 : decode cX9_isInOrder 22 = .ok (.iload_n 3, 1) := by decide +kernel
theorem dX9_isInOrder_23 : decode cX9_isInOrder 23 = .ok (.iconst 1, 1) := by decide +kernel
theorem dX9_isInOrder_24 : decode cX9_isInOrder 24 = .ok (.isub, 1) := by decide +kernel
theorem dX9_isInOrder_25 : decode cX9_isInOrder 25 = .ok (.invokevirtual 19, 3) := by decide +kernel
theorem dX9_isInOrder_28 : decode cX9_isInOrder 28 = .ok (.iload_n 2, 1) := by decide +kernel
theorem dX9_isInOrder_29 : decode cX9_isInOrder 29 = .ok (.invokevirtual 34, 3) := by decide +kernel
theorem dX9_isInOrder_32 : decode cX9_isInOrder 32 = .ok (.if_icmp .ge 5, 3) := by decide +kernel
theorem dX9_isInOrder_37 : decode cX9_isInOrder 37 = .ok (.iinc 3 1, 3) := by decide +kernel
theorem dX9_isInOrder_40 : decode cX9_isInOrder 40 = .ok (.goto (-38), 3) := by decide +kernel

set_option maxHeartbeats 8000000 in
set_option maxRecDepth 100000 in
theorem c_X9_isInOrder (l : Launch) (dC : Nat → ClassId) (dI : Nat → Nat → Nat) (g : Nat → ClassId) (tp hd : Nat → Nat) (Wd : va_W) (a_book : Nat) (a_book_allKeys : Nat) (a_book_allMarks : Nat) (book_count : Int32) (book_allKeys : Nat → Int32) (F_ : Nat → Nat → Int32) (n_ : Nat → Int32) (j : Nat) (order : Int32) (hj_j : j < 18) (k_book : Nat) (w_book : Wd[k_book]? = some (a_book, .inr (2, [.ref a_book_allKeys, .ref a_book_allMarks, .int book_count]))) (k_book_allKeys : Nat) (w_book_allKeys : Wd[k_book_allKeys]? = some (a_book_allKeys, .inl (g 0, 200, .inl book_allKeys))) (kT : Nat) (hT : TPat Wd kT tp hd (g 0) F_ n_) (Q : Bool → Prop) (hw : wp_X9_isInOrder book_allKeys j order F_ n_ Q) (sz : Nat) : Met l yX9_isInOrder wqX9_isInOrder ({ frames := 1, cells := 0, slots := 0, locals := 23 }) (va_Pc [.ref (tp j), .ref a_book, .int order] (PG (dC, dI) g Wd sz)) (va_Qi (fun (r : Int32) (u : Unit) => ∃ b : Bool, r = b2i b ∧ Q b) (fun (u : Unit) t9 => va_P (dC, dI) vwCl Wd t9.heap) (va_A Wd sz)) 0 0 (va_A Wd sz) := by
  refine Met.ofW (cc := cX9_isInOrder) (maxL := 4) (ret := (some .boolean)) (by decide) rfl ?_
  intro p e s m args below meth c s₁ B hml hv
  obtain ⟨rfl, hsz, hP, hK, hD0, hG⟩ := hv
  have hx := B.exec
  have hb := B.bytes
  have hr := B.returns
  have hts := atoms_spec (ws := wqX9_isInOrder) B.pre
  have hown : s.vm.findClass RX9 = some m.cls := findClass_of_methodNamed B.named
  have hlocks := B.notSynchronized
  subst hsz
  have hD := hD0.self (sz := s.heap.size)
  generalize hAe : va_A Wd s.heap.size = A at hD hG ⊢
  have hA : ∀ q : Nat, s.heap.size ≤ q → A q := fun q h => by rw [← hAe]; exact Or.inr h
  have hS : va_S A s.heap s.heap [] := va_S.rf
  have hl := lv_entry ([.ref (tp j), .ref a_book, .int order]) (n := 4) (Nat.le_of_ble_eq_true rfl)
  rw [lg_entry_eq]
  generalize (lg_sl ([.ref (tp j), .ref a_book, .int order]) ++ List.replicate (4 - (lg_sl ([.ref (tp j), .ref a_book, .int order])).length) Slot.unset).toArray = ls at hl ⊢
  have hl : lv_has ls 4 [(0, .ref (tp j)), (1, .ref a_book), (2, .int order)] := hl
  unfold wp_X9_isInOrder at hw
  have hf15 := hts (Cond.fieldLink RX9 15 "RunmergeOffice$Tape" "size" "I") (aw_l aw_1_66)
  have hiX9 : ∀ w ∈ u_ws RX9 TX9 2, w ∈ wqX9_isInOrder := fun w h => aw_l (aw_wsX90 w h)
  refine lv_iconst (v := 1) hx hb dX9_isInOrder_0 (by decide) ?_
  refine lv_istore_n (lv' := [(3, .int 1), (0, .ref (tp j)), (1, .ref a_book), (2, .int order)]) hx hb dX9_isInOrder_1 rfl hl (by decide) rfl (fun ls hl => ?_)
  refine W_abs (fun QM hQM => ?_)
  have EX2_35 : ∀  (H : Heap) (locs : List Loc), (wx_X9_isInOrder_2_35 Q)  → va_P (dC, dI) vwCl Wd H → va_S A s.heap H locs → ∀ (ls : Array Slot), lv_has ls 4 [] → W p l e (headSpec wqX9_isInOrder ({ frames := 1, cells := 0, slots := 0, locals := 23 })).room s m ([.ref (tp j), .ref a_book, .int order] : List Value).toArray below meth c H locs 0 0 QM (F0 m 35 ls []) := by
    intro  H locs hw hP hS ls hl
    refine lv_iconst (v := 0) hx hb dX9_isInOrder_35 (by decide) ?_
    subst hQM
    exact W.zret (v := 0) hx hb hr rfl (fun t ht hW => ⟨⟨_, (), rfl, ⟨false, rfl, hw⟩, P_at ht hP⟩, hS.F ht⟩) hS.2.2 dX9_isInOrder_36
  have EX2_43 : ∀  (H : Heap) (locs : List Loc), (wx_X9_isInOrder_2_43 Q)  → va_P (dC, dI) vwCl Wd H → va_S A s.heap H locs → ∀ (ls : Array Slot), lv_has ls 4 [] → W p l e (headSpec wqX9_isInOrder ({ frames := 1, cells := 0, slots := 0, locals := 23 })).room s m ([.ref (tp j), .ref a_book, .int order] : List Value).toArray below meth c H locs 0 0 QM (F0 m 43 ls []) := by
    intro  H locs hw hP hS ls hl
    refine lv_iconst (v := 1) hx hb dX9_isInOrder_43 (by decide) ?_
    subst hQM
    exact W.zret (v := 1) hx hb hr rfl (fun t ht hW => ⟨⟨_, (), rfl, ⟨true, rfl, hw⟩, P_at ht hP⟩, hS.F ht⟩) hS.2.2 dX9_isInOrder_44
  have LOOP2 : ∀ (n2 : Nat) (v3_1 : Int32) (H : Heap) (locs : List Loc), wl_X9_isInOrder_2 book_allKeys j order F_ n_ (wx_X9_isInOrder_2_35 Q) (wx_X9_isInOrder_2_43 Q) n2 v3_1 → va_P (dC, dI) vwCl Wd H → va_S A s.heap H locs → ∀ (ls : Array Slot), lv_has ls 4 [(0, .ref (tp j)), (1, .ref a_book), (2, .int order), (3, .int v3_1)] → W p l e (headSpec wqX9_isInOrder ({ frames := 1, cells := 0, slots := 0, locals := 23 })).room s m ([.ref (tp j), .ref a_book, .int order] : List Value).toArray below meth c H locs 0 0 QM (F0 m 2 ls []) := by
    intro n2
    induction n2 with
    | zero =>
      intro v3_1 H locs hw hP hS ls hl
      exact False.elim hw
    | succ n2 ih2 =>
      intro v3_1 H locs hw hP hS ls hl
      rw [wl_X9_isInOrder_2_s] at hw
      refine lv_iload_n hx hb dX9_isInOrder_2 rfl (lv_at hl 3 rfl) ?_
      refine lv_aload_n hx hb dX9_isInOrder_3 rfl (lv_at hl 0 rfl) ?_
      refine va_get (D := (dC, dI)) (ci := 11) (v := .int (n_ j)) (C := RX9) (T := TX9) (N := 2) hx hb hts hiX9 hown hK hP _ (hT.o hj_j) rfl 1 (by decide) hf15 (fun _ h9 => h9) rfl dX9_isInOrder_4 ?_
      refine lv_icmp_ge (tgt := 43) hx hb dX9_isInOrder_7 (by decide) (fun c_2 => ?_) (fun c_2 => ?_)
      · have hw := hw.1 c_2
        exact EX2_43  _ _ hw hP hS _ (lv_sub hl [] rfl)
      · have hw := hw.2 c_2
        refine lv_aload_n hx hb dX9_isInOrder_10 rfl (lv_at hl 1 rfl) ?_
        refine lv_aload_n hx hb dX9_isInOrder_11 rfl (lv_at hl 0 rfl) ?_
        refine lv_iload_n hx hb dX9_isInOrder_12 rfl (lv_at hl 3 rfl) ?_
        refine va_calli (va_runV (As := [.int v3_1]) (rest := [.ref a_book]) ⟨hx, hb, hml, hown, hts⟩ (c_X9_recordAt l dC dI g tp hd (Wd := Wd) (F_ := F_) (n_ := n_) (j := j) (place := v3_1) (hj_j := hj_j) (kT := _) (hT := hT) (hw := hw) (sz := H.size)) (cwV 1 hts (gqV aw_4_220 aw_3_171 aw_3_172 aw_1_3 aw_3_173) rfl rfl rfl (by decide +kernel) ⟨Nat.le_of_ble_eq_true rfl, Nat.le_of_ble_eq_true rfl⟩) ⟨PG_blind, va_recv hK hP (ci := 11) (q0 := _) rfl (hT.o hj_j), PG_call hK hG hS hP hD (A_all hD hA hS.1)⟩ rfl rfl hl.1 rfl (lv_room (Nat.le_of_ble_eq_true rfl)) dX9_isInOrder_13 ⟨Nat.le_of_ble_eq_true rfl, Nat.le_of_ble_eq_true rfl⟩) hS (fun q _ h => (A_all hD hA hS.1) q h) (A_all hD hA hS.1) (fun r_3 u_3 t_3 H_3 L_3 ht_3 hvm_3 hw_3 hB_3 hz_3 hk_3 hS => ?_)
        rw [ht_3] at hB_3
        have hP : va_P (dC, dI) vwCl Wd H_3 := hB_3
        have hw := hw_3
        refine lv_iload_n hx hb dX9_isInOrder_16 rfl (lv_at hl 2 rfl) ?_
        refine va_calli (va_runV (As := [.int r_3, .int order]) (rest := []) ⟨hx, hb, hml, hown, hts⟩ (c_X0_rankOf l dC dI g (Wd := Wd) (a_this := a_book) (a_allKeys := a_book_allKeys) (a_allMarks := a_book_allMarks) (count := book_count) (allKeys := book_allKeys) (record := r_3) (order := order) (k_this := k_book) (w_this := w_book) (k_allKeys := k_book_allKeys) (w_allKeys := w_book_allKeys) (hw := hw) (sz := H_3.size)) (cwV 2 hts (gqV aw_4_221 aw_3_199 aw_3_200 aw_1_2 aw_3_201) rfl rfl rfl (by decide +kernel) ⟨Nat.le_of_ble_eq_true rfl, Nat.le_of_ble_eq_true rfl⟩) ⟨PG_blind, va_recv hK hP (ci := 2) (q0 := k_book) rfl w_book, PG_call hK hG hS hP hD (A_all hD hA hS.1)⟩ rfl rfl hl.1 rfl (lv_room (Nat.le_of_ble_eq_true rfl)) dX9_isInOrder_17 ⟨Nat.le_of_ble_eq_true rfl, Nat.le_of_ble_eq_true rfl⟩) hS (fun q _ h => (A_all hD hA hS.1) q h) (A_all hD hA hS.1) (fun r_4 u_4 t_4 H_4 L_4 ht_4 hvm_4 hw_4 hB_4 hz_4 hk_4 hS => ?_)
        rw [ht_4] at hB_4
        have hP : va_P (dC, dI) vwCl Wd H_4 := hB_4
        have hw := hw_4
        refine lv_aload_n hx hb dX9_isInOrder_20 rfl (lv_at hl 1 rfl) ?_
        refine lv_aload_n hx hb dX9_isInOrder_21 rfl (lv_at hl 0 rfl) ?_
        refine lv_iload_n hx hb dX9_isInOrder_22 rfl (lv_at hl 3 rfl) ?_
        refine lv_iconst (v := 1) hx hb dX9_isInOrder_23 (by decide) ?_
        refine lv_isub hx hb dX9_isInOrder_24 ?_
        refine lv_topi (fun x_5 ex_5 => ?_)
        have hw := hw x_5 ex_5
        refine va_calli (va_runV (As := [.int x_5]) (rest := [.ref a_book, .int r_4]) ⟨hx, hb, hml, hown, hts⟩ (c_X9_recordAt l dC dI g tp hd (Wd := Wd) (F_ := F_) (n_ := n_) (j := j) (place := x_5) (hj_j := hj_j) (kT := _) (hT := hT) (hw := hw) (sz := H_4.size)) (cwV 1 hts (gqV aw_4_220 aw_3_171 aw_3_172 aw_1_3 aw_3_173) rfl rfl rfl (by decide +kernel) ⟨Nat.le_of_ble_eq_true rfl, Nat.le_of_ble_eq_true rfl⟩) ⟨PG_blind, va_recv hK hP (ci := 11) (q0 := _) rfl (hT.o hj_j), PG_call hK hG hS hP hD (A_all hD hA hS.1)⟩ rfl rfl hl.1 rfl (lv_room (Nat.le_of_ble_eq_true rfl)) dX9_isInOrder_25 ⟨Nat.le_of_ble_eq_true rfl, Nat.le_of_ble_eq_true rfl⟩) hS (fun q _ h => (A_all hD hA hS.1) q h) (A_all hD hA hS.1) (fun r_6 u_6 t_6 H_6 L_6 ht_6 hvm_6 hw_6 hB_6 hz_6 hk_6 hS => ?_)
        rw [ht_6] at hB_6
        have hP : va_P (dC, dI) vwCl Wd H_6 := hB_6
        have hw := hw_6
        refine lv_iload_n hx hb dX9_isInOrder_28 rfl (lv_at hl 2 rfl) ?_
        refine va_calli (va_runV (As := [.int r_6, .int order]) (rest := [.int r_4]) ⟨hx, hb, hml, hown, hts⟩ (c_X0_rankOf l dC dI g (Wd := Wd) (a_this := a_book) (a_allKeys := a_book_allKeys) (a_allMarks := a_book_allMarks) (count := book_count) (allKeys := book_allKeys) (record := r_6) (order := order) (k_this := k_book) (w_this := w_book) (k_allKeys := k_book_allKeys) (w_allKeys := w_book_allKeys) (hw := hw) (sz := H_6.size)) (cwV 2 hts (gqV aw_4_221 aw_3_199 aw_3_200 aw_1_2 aw_3_201) rfl rfl rfl (by decide +kernel) ⟨Nat.le_of_ble_eq_true rfl, Nat.le_of_ble_eq_true rfl⟩) ⟨PG_blind, va_recv hK hP (ci := 2) (q0 := k_book) rfl w_book, PG_call hK hG hS hP hD (A_all hD hA hS.1)⟩ rfl rfl hl.1 rfl (lv_room (Nat.le_of_ble_eq_true rfl)) dX9_isInOrder_29 ⟨Nat.le_of_ble_eq_true rfl, Nat.le_of_ble_eq_true rfl⟩) hS (fun q _ h => (A_all hD hA hS.1) q h) (A_all hD hA hS.1) (fun r_7 u_7 t_7 H_7 L_7 ht_7 hvm_7 hw_7 hB_7 hz_7 hk_7 hS => ?_)
        rw [ht_7] at hB_7
        have hP : va_P (dC, dI) vwCl Wd H_7 := hB_7
        have hw := hw_7
        refine lv_icmp_ge (tgt := 37) hx hb dX9_isInOrder_32 (by decide) (fun c_8 => ?_) (fun c_8 => ?_)
        · have hw := hw.1 c_8
          obtain ⟨x_9, ex_9⟩ : ∃ y : Int32, y = v3_1 + 1 := ⟨_, rfl⟩
          have hw := hw x_9 ex_9
          refine lv_iinc (v := x_9) (lv' := [(3, .int x_9), (0, .ref (tp j)), (1, .ref a_book), (2, .int order)]) hx hb dX9_isInOrder_37 hl (k := 3) rfl (by rw [ex_9]; rfl) (by decide) rfl (fun ls hl => ?_)
          refine lv_goto (tgt := 2) hx hb dX9_isInOrder_40 (by decide) ?_
          exact ih2 x_9 _ _ hw hP hS _ (lv_sub hl [1, 2, 3, 0] rfl)
        · have hw := hw.2 c_8
          exact EX2_35  _ _ hw hP hS _ (lv_sub hl [] rfl)
  obtain ⟨n2, hw⟩ := hw
  exact LOOP2 n2 1 _ _ hw hP hS _ (lv_sub hl [1, 2, 3, 0] rfl)
theorem dX9_thinOut_0 : decode cX9_thinOut 0 = .ok (.aload_n 0, 1) := by decide +kernel
theorem dX9_thinOut_1 : decode cX9_thinOut 1 = .ok (.getfield 15, 3) := by decide +kernel
theorem dX9_thinOut_4 : decode cX9_thinOut 4 = .ok (.bipush 100, 2) := by decide +kernel
theorem dX9_thinOut_6 : decode cX9_thinOut 6 = .ok (.invokestatic 28, 3) := by decide +kernel
theorem dX9_thinOut_9 : decode cX9_thinOut 9 = .ok (.istore_n 3, 1) := by decide +kernel
theorem dX9_thinOut_10 : decode cX9_thinOut 10 = .ok (.iconst 0, 1) := by decide +kernel
theorem dX9_thinOut_11 : decode cX9_thinOut 11 = .ok (.istore 4, 2) := by decide +kernel
theorem dX9_thinOut_13 : decode cX9_thinOut 13 = .ok (.iconst 0, 1) := by decide +kernel
theorem dX9_thinOut_14 : decode cX9_thinOut 14 = .ok (.istore 5, 2) := by decide +kernel
theorem dX9_thinOut_109 : decode cX9_thinOut 109 = .ok (.aload_n 0, 1) := by decide +kernel
theorem dX9_thinOut_110 : decode cX9_thinOut 110 = .ok (.iload 4, 2) := by decide +kernel
theorem dX9_thinOut_112 : decode cX9_thinOut 112 = .ok (.putfield 15, 3) := by decide +kernel
theorem dX9_thinOut_115 : decode cX9_thinOut 115 = .ok (.iload_n 3, 1) := by decide +kernel
theorem dX9_thinOut_116 : decode cX9_thinOut 116 = .ok (.iload 4, 2) := by decide +kernel
theorem dX9_thinOut_118 : decode cX9_thinOut 118 = .ok (.isub, 1) := by decide +kernel
theorem dX9_thinOut_119 : decode cX9_thinOut 119 = .ok (.ireturn, 1) := by decide +kernel
theorem dX9_thinOut_16 : decode cX9_thinOut 16 = .ok (.iload 5, 2) := by decide +kernel
theorem dX9_thinOut_18 : decode cX9_thinOut 18 = .ok (.iload_n 3, 1) := by decide +kernel
theorem dX9_thinOut_19 : decode cX9_thinOut 19 = .ok (.if_icmp .ge 90, 3) := by decide +kernel
theorem dX9_thinOut_22 : decode cX9_thinOut 22 = .ok (.iload_n 2, 1) := by decide +kernel
theorem dX9_thinOut_37 : decode cX9_thinOut 37 = .ok (.istore 6, 2) := by decide +kernel
theorem dX9_thinOut_39 : decode cX9_thinOut 39 = .ok (.iload 6, 2) := by decide +kernel
theorem dX9_thinOut_72 : decode cX9_thinOut 72 = .ok (.istore 7, 2) := by decide +kernel
theorem dX9_thinOut_74 : decode cX9_thinOut 74 = .ok (.iload 7, 2) := by decide +kernel
theorem dX9_thinOut_76 : decode cX9_thinOut 76 = .ok (.ifCond .eq 27, 3) := by decide +kernel
theorem dX9_thinOut_103 : decode cX9_thinOut 103 = .ok (.iinc 5 1, 3) := by decide +kernel
theorem dX9_thinOut_106 : decode cX9_thinOut 106 = .ok (.goto (-90), 3) := by decide +kernel
theorem dX9_thinOut_79 : decode cX9_thinOut 79 = .ok (.iload 4, 2) := by decide +kernel
theorem dX9_thinOut_81 : decode cX9_thinOut 81 = .ok (.bipush 100, 2) := by decide +kernel
theorem dX9_thinOut_83 : decode cX9_thinOut 83 = .ok (.if_icmp .ge 20, 3) := by decide +kernel
theorem dX9_thinOut_86 : decode cX9_thinOut 86 = .ok (.aload_n 0, 1) := by decide +kernel
theorem dX9_thinOut_87 : decode cX9_thinOut 87 = .ok (.getfield 9, 3) := by decide +kernel
theorem dX9_thinOut_90 : decode cX9_thinOut 90 = .ok (.iload 4, 2) := by decide +kernel
theorem dX9_thinOut_92 : decode cX9_thinOut 92 = .ok (.aload_n 0, 1) := by decide +kernel
theorem dX9_thinOut_93 : decode cX9_thinOut 93 = .ok (.getfield 9, 3) := by decide +kernel
theorem dX9_thinOut_96 : decode cX9_thinOut 96 = .ok (.iload 5, 2) := by decide +kernel
theorem dX9_thinOut_98 : decode cX9_thinOut 98 = .ok (.iaload, 1) := by decide +kernel
theorem dX9_thinOut_99 : decode cX9_thinOut 99 = .ok (.iastore, 1) := by decide +kernel
theorem dX9_thinOut_100 : decode cX9_thinOut 100 = .ok (.iinc 4 1, 3) := by decide +kernel
theorem dX9_thinOut_67 : decode cX9_thinOut 67 = .ok (.iconst 1, 1) := by decide +kernel
theorem dX9_thinOut_68 : decode cX9_thinOut 68 = .ok (.goto 4, 3) := by decide +kernel
theorem dX9_thinOut_41 : decode cX9_thinOut 41 = .ok (.ifCond .lt 26, 3) := by decide +kernel
theorem dX9_thinOut_44 : decode cX9_thinOut 44 = .ok (.iload 6, 2) := by decide +kernel
theorem dX9_thinOut_46 : decode cX9_thinOut 46 = .ok (.iload_n 3, 1) := by decide +kernel
theorem dX9_thinOut_47 : decode cX9_thinOut 47 = .ok (.if_icmp .ge 20, 3) := by decide +kernel
theorem dX9_thinOut_50 : decode cX9_thinOut 50 = .ok (.aload_n 0, 1) := by decide +kernel
theorem dX9_thinOut_51 : decode cX9_thinOut 51 = .ok (.aload_n 1, 1) := by decide +kernel
theorem dX9_thinOut_52 : decode cX9_thinOut 52 = .ok (.iload 6, 2) := by decide +kernel
theorem dX9_thinOut_54 : decode cX9_thinOut 54 = .ok (.invokevirtual 37, 3) := by decide +kernel
theorem dX9_thinOut_57 : decode cX9_thinOut 57 = .ok (.aload_n 0, 1) := by decide +kernel
theorem dX9_thinOut_58 : decode cX9_thinOut 58 = .ok (.aload_n 1, 1) := by decide +kernel
theorem dX9_thinOut_59 : decode cX9_thinOut 59 = .ok (.iload 5, 2) := by decide +kernel
theorem dX9_thinOut_61 : decode cX9_thinOut 61 = .ok (.invokevirtual 37, 3) := by decide +kernel
theorem dX9_thinOut_64 : decode cX9_thinOut 64 = .ok (.if_icmp .eq 7, 3) := by decide +kernel
theorem dX9_thinOut_71 : decode cX9_thinOut 71 = .ok (.iconst 0, 1) := by decide +kernel
theorem dX9_thinOut_23 : decode cX9_thinOut 23 = .ok (.ifCond .eq 10, 3) := by decide +kernel
theorem dX9_thinOut_33 : decode cX9_thinOut 33 = .ok (.iload 5, 2) := by decide +kernel
theorem dX9_thinOut_35 : decode cX9_thinOut 35 = .ok (.iconst 1, 1) := by decide +kernel
theorem dX9_thinOut_36 : decode cX9_thinOut 36 = .ok (.isub, 1) := by decide +kernel
theorem dX9_thinOut_26 : decode cX9_thinOut 26 = .ok (.iload 5, 2) := by decide +kernel
theorem dX9_thinOut_28 : decode cX9_thinOut 28 = .ok (.iconst 1, 1) := by decide +kernel
theorem dX9_thinOut_29 : decode cX9_thinOut 29 = .ok (.iadd, 1) := by decide +kernel
theorem dX9_thinOut_30 : decode cX9_thinOut 30 = .ok (.goto 7, 3) := by decide +kernel
abbrev Wa_X9_thinOut (g : Nat → ClassId) (tp : Nat → Nat) (hd : Nat → Nat) (a_book : Nat) (a_book_allKeys : Nat) (a_book_allMarks : Nat) (book_count : Int32) (book_allKeys : Nat → Int32) (F_ : Nat → Nat → Int32) (n_ : Nat → Int32) : va_W := ([(a_book, .inr (2, [.ref a_book_allKeys, .ref a_book_allMarks, .int book_count])), (a_book_allKeys, .inl (g 0, 200, .inl book_allKeys))] ++ TPl tp hd (g 0) F_ n_)
abbrev Wb_X9_thinOut (g : Nat → ClassId) (tp : Nat → Nat) (hd : Nat → Nat) (a_book : Nat) (a_book_allKeys : Nat) (a_book_allMarks : Nat) (book_count : Int32) (book_allKeys : Nat → Int32) (u : (Nat → Nat → Int32) × (Nat → Int32) × Unit) : va_W := ([(a_book, .inr (2, [.ref a_book_allKeys, .ref a_book_allMarks, .int book_count])), (a_book_allKeys, .inl (g 0, 200, .inl book_allKeys))] ++ TPl tp hd (g 0) u.1 u.2.1)
set_option maxHeartbeats 8000000 in
set_option maxRecDepth 100000 in
theorem c_X9_thinOut (l : Launch) (dC : Nat → ClassId) (dI : Nat → Nat → Nat) (g : Nat → ClassId) (tp hd : Nat → Nat) (a_book : Nat) (a_book_allKeys : Nat) (a_book_allMarks : Nat) (book_count : Int32) (book_allKeys : Nat → Int32) (F_ : Nat → Nat → Int32) (n_ : Nat → Int32) (j : Nat) (isLast : Bool) (hj_j : j < 18) (Q : Int32 → (Nat → Nat → Int32) → (Nat → Int32) → Prop) (hw : wp_X9_thinOut book_allKeys j isLast F_ n_ Q) (sz : Nat) : Met l yX9_thinOut wqX9_thinOut ({ frames := 2, cells := 0, slots := 0, locals := 43 }) (va_Pc [.ref (tp j), .ref a_book, .int (b2i isLast)] (PG (dC, dI) g (Wa_X9_thinOut g tp hd a_book a_book_allKeys a_book_allMarks book_count book_allKeys F_ n_) sz)) (va_Qi (fun (r : Int32) (u : (Nat → Nat → Int32) × (Nat → Int32) × Unit) => Q r u.1 u.2.1) (fun (u : (Nat → Nat → Int32) × (Nat → Int32) × Unit) t9 => va_P (dC, dI) vwCl (Wb_X9_thinOut g tp hd a_book a_book_allKeys a_book_allMarks book_count book_allKeys u) t9.heap ∧ va_D (va_A (Wa_X9_thinOut g tp hd a_book a_book_allKeys a_book_allMarks book_count book_allKeys F_ n_) sz) (Wb_X9_thinOut g tp hd a_book a_book_allKeys a_book_allMarks book_count book_allKeys u)) (va_A (Wa_X9_thinOut g tp hd a_book a_book_allKeys a_book_allMarks book_count book_allKeys F_ n_) sz)) 0 0 (va_A (Wa_X9_thinOut g tp hd a_book a_book_allKeys a_book_allMarks book_count book_allKeys F_ n_) sz) := by
  refine Met.ofW (cc := cX9_thinOut) (maxL := 8) (ret := (some .int)) (by decide) rfl ?_
  intro p e s m args below meth c s₁ B hml hv
  obtain ⟨rfl, hsz, hP, hK, hD0, hG⟩ := hv
  have hx := B.exec
  have hb := B.bytes
  have hr := B.returns
  have hts := atoms_spec (ws := wqX9_thinOut) B.pre
  have hown : s.vm.findClass RX9 = some m.cls := findClass_of_methodNamed B.named
  have hlocks := B.notSynchronized
  subst hsz
  have hD := hD0.self (sz := s.heap.size)
  generalize hAe : va_A (Wa_X9_thinOut g tp hd a_book a_book_allKeys a_book_allMarks book_count book_allKeys F_ n_) s.heap.size = A at hD hG ⊢
  have hA : ∀ q : Nat, s.heap.size ≤ q → A q := fun q h => by rw [← hAe]; exact Or.inr h
  have hS : va_S A s.heap s.heap [] := va_S.rf
  have hl := lv_entry ([.ref (tp j), .ref a_book, .int (b2i isLast)]) (n := 8) (Nat.le_of_ble_eq_true rfl)
  rw [lg_entry_eq]
  generalize (lg_sl ([.ref (tp j), .ref a_book, .int (b2i isLast)]) ++ List.replicate (8 - (lg_sl ([.ref (tp j), .ref a_book, .int (b2i isLast)])).length) Slot.unset).toArray = ls at hl ⊢
  have hl : lv_has ls 8 [(0, .ref (tp j)), (1, .ref a_book), (2, .int (b2i isLast))] := hl
  unfold wp_X9_thinOut at hw
  have hf15 := hts (Cond.fieldLink RX9 15 "RunmergeOffice$Tape" "size" "I") (aw_l aw_1_66)
  have hiX9 : ∀ w ∈ u_ws RX9 TX9 2, w ∈ wqX9_thinOut := fun w h => aw_l (aw_wsX90 w h)
  have hmmin28_0 := hts (Cond.methodLink RX9 28 Lib.Math.min.name) (aw_l aw_3_140)
  have hmmin28_1 := hts (Cond.static Lib.Math.min.name) (aw_l aw_3_141)
  have hmmin28_2 := hts (Cond.initialized "java/lang/Math") (aw_l aw_1_19)
  have hmmin28_3 := hts (Cond.code Lib.Math.min.name Lib.Math.min.code 2 (some .int)) (aw_l aw_3_142)
  have hf9 := hts (Cond.fieldLink RX9 9 "RunmergeOffice$Tape" "held" "[I") (aw_l aw_1_65)
  refine lv_aload_n hx hb dX9_thinOut_0 rfl (lv_at hl 0 rfl) ?_
  refine va_get (D := (dC, dI)) (ci := 11) (v := .int (n_ j)) (C := RX9) (T := TX9) (N := 2) hx hb hts hiX9 hown hK hP _ (TP_o hj_j) rfl 1 (by decide) hf15 (fun _ h9 => h9) rfl dX9_thinOut_1 ?_
  refine lv_bipush (v := 100) hx hb dX9_thinOut_4 (by decide) ?_
  refine va_mmin hx hb (hml.trans hl.1.symm) hown hmmin28_0 hmmin28_1 hmmin28_2 hmmin28_3 (Nat.le_of_ble_eq_true rfl) (Nat.le_of_ble_eq_true rfl) (Nat.le_of_ble_eq_true rfl) (Nat.le_of_ble_eq_true rfl) dX9_thinOut_6 ?_
  refine lv_topi (fun x_1 ex_1 => ?_)
  have hw := hw x_1 ex_1
  refine lv_istore_n (lv' := [(3, .int x_1), (0, .ref (tp j)), (1, .ref a_book), (2, .int (b2i isLast))]) hx hb dX9_thinOut_9 rfl hl (by decide) rfl (fun ls hl => ?_)
  refine lv_iconst (v := 0) hx hb dX9_thinOut_10 (by decide) ?_
  refine lv_istore (lv' := [(4, .int 0), (3, .int x_1), (0, .ref (tp j)), (1, .ref a_book), (2, .int (b2i isLast))]) hx hb dX9_thinOut_11 hl (by decide) rfl (fun ls hl => ?_)
  refine lv_iconst (v := 0) hx hb dX9_thinOut_13 (by decide) ?_
  refine lv_istore (lv' := [(5, .int 0), (4, .int 0), (3, .int x_1), (0, .ref (tp j)), (1, .ref a_book), (2, .int (b2i isLast))]) hx hb dX9_thinOut_14 hl (by decide) rfl (fun ls hl => ?_)
  refine W_abs (fun QM hQM => ?_)
  have EX16_109 : ∀ (v4_5 : Int32) (F__6 : Nat → Nat → Int32) (H : Heap) (locs : List Loc), (wx_X9_thinOut_16_109 j n_ Q x_1) v4_5 F__6 → va_P (dC, dI) vwCl ([(a_book, .inr (2, [.ref a_book_allKeys, .ref a_book_allMarks, .int book_count])), (a_book_allKeys, .inl (g 0, 200, .inl book_allKeys))] ++ TPl tp hd (g 0) F__6 n_) H → va_D A ([(a_book, .inr (2, [.ref a_book_allKeys, .ref a_book_allMarks, .int book_count])), (a_book_allKeys, .inl (g 0, 200, .inl book_allKeys))] ++ TPl tp hd (g 0) F__6 n_) → va_S A s.heap H locs → ∀ (ls : Array Slot), lv_has ls 8 [(0, .ref (tp j)), (3, .int x_1), (4, .int v4_5)] → W p l e (headSpec wqX9_thinOut ({ frames := 2, cells := 0, slots := 0, locals := 43 })).room s m ([.ref (tp j), .ref a_book, .int (b2i isLast)] : List Value).toArray below meth c H locs 0 0 QM (F0 m 109 ls []) := by
    intro v4_5 F__6 H locs hw hP hD hS ls hl
    refine lv_aload_n hx hb dX9_thinOut_109 rfl (lv_at hl 0 rfl) ?_
    refine lv_iload hx hb dX9_thinOut_110 (lv_at hl 2 rfl) ?_
    refine va_put (D := (dC, dI)) (ci := 11) (v := .int v4_5) (ty := .int) (C := RX9) (T := TX9) (N := 2) hx hb hts hiX9 tyX9 tyX9_ok nmX9 hown hK hP hD hS _ (TP_o hj_j) rfl 1 (by decide) hf15 (fun _ h9 => h9) rfl (by decide +kernel) rfl rfl (Nat.le_of_ble_eq_true rfl) dX9_thinOut_112 (fun H_7 L_8 hP hD hS => ?_)
    rw [TP_setn hj_j] at hP hD
    have hP : va_P (dC, dI) vwCl ([(a_book, .inr (2, [.ref a_book_allKeys, .ref a_book_allMarks, .int book_count])), (a_book_allKeys, .inl (g 0, 200, .inl book_allKeys))] ++ TPl tp hd (g 0) F__6 (va_up n_ j v4_5)) H_7 := hP
    have hD : va_D A ([(a_book, .inr (2, [.ref a_book_allKeys, .ref a_book_allMarks, .int book_count])), (a_book_allKeys, .inl (g 0, 200, .inl book_allKeys))] ++ TPl tp hd (g 0) F__6 (va_up n_ j v4_5)) := hD
    refine lv_iload_n hx hb dX9_thinOut_115 rfl (lv_at hl 1 rfl) ?_
    refine lv_iload hx hb dX9_thinOut_116 (lv_at hl 2 rfl) ?_
    refine lv_isub hx hb dX9_thinOut_118 ?_
    refine lv_topi (fun x_9 ex_9 => ?_)
    have hw := hw x_9 ex_9
    subst hQM
    have hP9 := va_P.part (cx := [(a_book, .inr (2, [.ref a_book_allKeys, .ref a_book_allMarks, .int book_count])), (a_book_allKeys, .inl (g 0, 200, .inl book_allKeys))]) hP [0, 1] rfl
    have hD9 := va_D.part (cx := [(a_book, .inr (2, [.ref a_book_allKeys, .ref a_book_allMarks, .int book_count])), (a_book_allKeys, .inl (g 0, 200, .inl book_allKeys))]) hD [0, 1] (by decide) rfl
    exact W.iret (v := x_9) hx hb hr (fun t ht hW => ⟨⟨x_9, (F__6, (va_up n_ j v4_5), ()), rfl, hw, ⟨P_at ht hP9, hD9⟩⟩, hS.F ht⟩) hS.2.2 dX9_thinOut_119
  have LOOP16 : ∀ (n16 : Nat) (v5_2 : Int32) (v4_3 : Int32) (F__4 : Nat → Nat → Int32) (H : Heap) (locs : List Loc), wl_X9_thinOut_16 book_allKeys j isLast n_ x_1 (wx_X9_thinOut_16_109 j n_ Q x_1) n16 v5_2 v4_3 F__4 → va_P (dC, dI) vwCl ([(a_book, .inr (2, [.ref a_book_allKeys, .ref a_book_allMarks, .int book_count])), (a_book_allKeys, .inl (g 0, 200, .inl book_allKeys))] ++ TPl tp hd (g 0) F__4 n_) H → va_D A ([(a_book, .inr (2, [.ref a_book_allKeys, .ref a_book_allMarks, .int book_count])), (a_book_allKeys, .inl (g 0, 200, .inl book_allKeys))] ++ TPl tp hd (g 0) F__4 n_) → va_S A s.heap H locs → ∀ (ls : Array Slot), lv_has ls 8 [(0, .ref (tp j)), (1, .ref a_book), (2, .int (b2i isLast)), (3, .int x_1), (4, .int v4_3), (5, .int v5_2)] → W p l e (headSpec wqX9_thinOut ({ frames := 2, cells := 0, slots := 0, locals := 43 })).room s m ([.ref (tp j), .ref a_book, .int (b2i isLast)] : List Value).toArray below meth c H locs 0 0 QM (F0 m 16 ls []) := by
    intro n16
    induction n16 with
    | zero =>
      intro v5_2 v4_3 F__4 H locs hw hP hD hS ls hl
      exact False.elim hw
    | succ n16 ih16 =>
      intro v5_2 v4_3 F__4 H locs hw hP hD hS ls hl
      rw [wl_X9_thinOut_16_s] at hw
      refine lv_iload hx hb dX9_thinOut_16 (lv_at hl 5 rfl) ?_
      refine lv_iload_n hx hb dX9_thinOut_18 rfl (lv_at hl 3 rfl) ?_
      refine lv_icmp_ge (tgt := 109) hx hb dX9_thinOut_19 (by decide) (fun c_10 => ?_) (fun c_10 => ?_)
      · have hw := hw.1 c_10
        exact EX16_109 v4_3 F__4 _ _ hw (hP.part [0, 1] rfl) (hD.part [0, 1] (by decide) rfl) hS _ (lv_sub hl [0, 3, 4] rfl)
      · have hw := hw.2 c_10
        refine lv_iload_n hx hb dX9_thinOut_22 rfl (lv_at hl 2 rfl) ?_
        have JN37 : ∀ (sk0_11 : Int32) (H : Heap) (locs : List Loc), (wj_X9_thinOut_37 book_allKeys j n_ x_1 v5_2 v4_3 F__4 (wl_X9_thinOut_16 book_allKeys j isLast n_ x_1 (wx_X9_thinOut_16_109 j n_ Q x_1) n16)) sk0_11 → va_P (dC, dI) vwCl ([(a_book, .inr (2, [.ref a_book_allKeys, .ref a_book_allMarks, .int book_count])), (a_book_allKeys, .inl (g 0, 200, .inl book_allKeys))] ++ TPl tp hd (g 0) F__4 n_) H → va_D A ([(a_book, .inr (2, [.ref a_book_allKeys, .ref a_book_allMarks, .int book_count])), (a_book_allKeys, .inl (g 0, 200, .inl book_allKeys))] ++ TPl tp hd (g 0) F__4 n_) → va_S A s.heap H locs → ∀ (ls : Array Slot), lv_has ls 8 [(0, .ref (tp j)), (1, .ref a_book), (2, .int (b2i isLast)), (3, .int x_1), (4, .int v4_3), (5, .int v5_2)] → W p l e (headSpec wqX9_thinOut ({ frames := 2, cells := 0, slots := 0, locals := 43 })).room s m ([.ref (tp j), .ref a_book, .int (b2i isLast)] : List Value).toArray below meth c H locs 0 0 QM (F0 m 37 ls [.int sk0_11]) := by
          intro sk0_11 H locs hw hP hD hS ls hl
          refine lv_istore (lv' := [(6, .int sk0_11), (0, .ref (tp j)), (1, .ref a_book), (2, .int (b2i isLast)), (3, .int x_1), (4, .int v4_3), (5, .int v5_2)]) hx hb dX9_thinOut_37 hl (by decide) rfl (fun ls hl => ?_)
          refine lv_iload hx hb dX9_thinOut_39 (lv_at hl 0 rfl) ?_
          have JN72 : ∀ (sk0_12 : Bool) (H : Heap) (locs : List Loc), (wj_X9_thinOut_72 j v5_2 v4_3 F__4 (wl_X9_thinOut_16 book_allKeys j isLast n_ x_1 (wx_X9_thinOut_16_109 j n_ Q x_1) n16)) sk0_12 → va_P (dC, dI) vwCl ([(a_book, .inr (2, [.ref a_book_allKeys, .ref a_book_allMarks, .int book_count])), (a_book_allKeys, .inl (g 0, 200, .inl book_allKeys))] ++ TPl tp hd (g 0) F__4 n_) H → va_D A ([(a_book, .inr (2, [.ref a_book_allKeys, .ref a_book_allMarks, .int book_count])), (a_book_allKeys, .inl (g 0, 200, .inl book_allKeys))] ++ TPl tp hd (g 0) F__4 n_) → va_S A s.heap H locs → ∀ (ls : Array Slot), lv_has ls 8 [(0, .ref (tp j)), (1, .ref a_book), (2, .int (b2i isLast)), (3, .int x_1), (4, .int v4_3), (5, .int v5_2)] → W p l e (headSpec wqX9_thinOut ({ frames := 2, cells := 0, slots := 0, locals := 43 })).room s m ([.ref (tp j), .ref a_book, .int (b2i isLast)] : List Value).toArray below meth c H locs 0 0 QM (F0 m 72 ls [.int (b2i sk0_12)]) := by
            intro sk0_12 H locs hw hP hD hS ls hl
            refine lv_istore (lv' := [(7, .int (b2i sk0_12)), (0, .ref (tp j)), (1, .ref a_book), (2, .int (b2i isLast)), (3, .int x_1), (4, .int v4_3), (5, .int v5_2)]) hx hb dX9_thinOut_72 hl (by decide) rfl (fun ls hl => ?_)
            refine lv_iload hx hb dX9_thinOut_74 (lv_at hl 0 rfl) ?_
            refine lv_if_eq (tgt := 103) hx hb dX9_thinOut_76 (by decide) (fun c_13 => ?_) (fun c_13 => ?_)
            · have hw := hw.1 (b2i_0 c_13)
              obtain ⟨x_14, ex_14⟩ : ∃ y : Int32, y = v5_2 + 1 := ⟨_, rfl⟩
              have hw := hw x_14 ex_14
              refine lv_iinc (v := x_14) (lv' := [(5, .int x_14), (7, .int (b2i sk0_12)), (0, .ref (tp j)), (1, .ref a_book), (2, .int (b2i isLast)), (3, .int x_1), (4, .int v4_3)]) hx hb dX9_thinOut_103 hl (k := 6) rfl (by rw [ex_14]; rfl) (by decide) rfl (fun ls hl => ?_)
              refine lv_goto (tgt := 16) hx hb dX9_thinOut_106 (by decide) ?_
              exact ih16 x_14 v4_3 F__4 _ _ hw (hP.part [0, 1] rfl) (hD.part [0, 1] (by decide) rfl) hS _ (lv_sub hl [2, 3, 4, 5, 6, 0] rfl)
            · have hw := hw.2 (b2i_1 c_13)
              refine lv_iload hx hb dX9_thinOut_79 (lv_at hl 5 rfl) ?_
              refine lv_bipush (v := 100) hx hb dX9_thinOut_81 (by decide) ?_
              refine lv_icmp_ge (tgt := 103) hx hb dX9_thinOut_83 (by decide) (fun c_15 => ?_) (fun c_15 => ?_)
              · have hw := hw.1 c_15
                obtain ⟨x_16, ex_16⟩ : ∃ y : Int32, y = v5_2 + 1 := ⟨_, rfl⟩
                have hw := hw x_16 ex_16
                refine lv_iinc (v := x_16) (lv' := [(5, .int x_16), (7, .int (b2i sk0_12)), (0, .ref (tp j)), (1, .ref a_book), (2, .int (b2i isLast)), (3, .int x_1), (4, .int v4_3)]) hx hb dX9_thinOut_103 hl (k := 6) rfl (by rw [ex_16]; rfl) (by decide) rfl (fun ls hl => ?_)
                refine lv_goto (tgt := 16) hx hb dX9_thinOut_106 (by decide) ?_
                exact ih16 x_16 v4_3 F__4 _ _ hw (hP.part [0, 1] rfl) (hD.part [0, 1] (by decide) rfl) hS _ (lv_sub hl [2, 3, 4, 5, 6, 0] rfl)
              · have hw := hw.2 c_15
                refine lv_aload_n hx hb dX9_thinOut_86 rfl (lv_at hl 1 rfl) ?_
                refine va_get (D := (dC, dI)) (ci := 11) (v := .ref (hd j)) (C := RX9) (T := TX9) (N := 2) hx hb hts hiX9 hown hK hP _ (TP_o hj_j) rfl 0 (by decide) hf9 (fun _ h9 => h9) rfl dX9_thinOut_87 ?_
                refine lv_iload hx hb dX9_thinOut_90 (lv_at hl 5 rfl) ?_
                refine lv_aload_n hx hb dX9_thinOut_92 rfl (lv_at hl 1 rfl) ?_
                refine va_get (D := (dC, dI)) (ci := 11) (v := .ref (hd j)) (C := RX9) (T := TX9) (N := 2) hx hb hts hiX9 hown hK hP _ (TP_o hj_j) rfl 0 (by decide) hf9 (fun _ h9 => h9) rfl dX9_thinOut_93 ?_
                refine lv_iload hx hb dX9_thinOut_96 (lv_at hl 6 rfl) ?_
                refine va_iald hx hb hK hP _ 0 (TP_a hj_j) rfl hw.1 dX9_thinOut_98 ?_
                have hw := hw.2
                refine lv_topi (fun x_17 ex_17 => ?_)
                have hw := hw x_17 ex_17
                refine va_iast hx hb hK hP hD hS _ 0 (TP_a hj_j) rfl hw.1 dX9_thinOut_99 (fun H_18 L_19 hP hD hS => ?_)
                have hw := hw.2
                rw [TP_seta hj_j] at hP hD
                have hP : va_P (dC, dI) vwCl ([(a_book, .inr (2, [.ref a_book_allKeys, .ref a_book_allMarks, .int book_count])), (a_book_allKeys, .inl (g 0, 200, .inl book_allKeys))] ++ TPl tp hd (g 0) (va_up F__4 j (upd (F__4 j) v4_3.toNatClampNeg x_17)) n_) H_18 := hP
                have hD : va_D A ([(a_book, .inr (2, [.ref a_book_allKeys, .ref a_book_allMarks, .int book_count])), (a_book_allKeys, .inl (g 0, 200, .inl book_allKeys))] ++ TPl tp hd (g 0) (va_up F__4 j (upd (F__4 j) v4_3.toNatClampNeg x_17)) n_) := hD
                obtain ⟨x_20, ex_20⟩ : ∃ y : Int32, y = v4_3 + 1 := ⟨_, rfl⟩
                have hw := hw x_20 ex_20
                refine lv_iinc (v := x_20) (lv' := [(4, .int x_20), (7, .int (b2i sk0_12)), (0, .ref (tp j)), (1, .ref a_book), (2, .int (b2i isLast)), (3, .int x_1), (5, .int v5_2)]) hx hb dX9_thinOut_100 hl (k := 5) rfl (by rw [ex_20]; rfl) (by decide) rfl (fun ls hl => ?_)
                obtain ⟨x_21, ex_21⟩ : ∃ y : Int32, y = v5_2 + 1 := ⟨_, rfl⟩
                have hw := hw x_21 ex_21
                refine lv_iinc (v := x_21) (lv' := [(5, .int x_21), (4, .int x_20), (7, .int (b2i sk0_12)), (0, .ref (tp j)), (1, .ref a_book), (2, .int (b2i isLast)), (3, .int x_1)]) hx hb dX9_thinOut_103 hl (k := 6) rfl (by rw [ex_21]; rfl) (by decide) rfl (fun ls hl => ?_)
                refine lv_goto (tgt := 16) hx hb dX9_thinOut_106 (by decide) ?_
                exact ih16 x_21 x_20 (va_up F__4 j (upd (F__4 j) v4_3.toNatClampNeg x_17)) _ _ hw (hP.part [0, 1] rfl) (hD.part [0, 1] (by decide) rfl) hS _ (lv_sub hl [3, 4, 5, 6, 1, 0] rfl)
          have JN67 : ∀  (H : Heap) (locs : List Loc), (wj_X9_thinOut_67 j v5_2 v4_3 F__4 (wl_X9_thinOut_16 book_allKeys j isLast n_ x_1 (wx_X9_thinOut_16_109 j n_ Q x_1) n16))  → va_P (dC, dI) vwCl ([(a_book, .inr (2, [.ref a_book_allKeys, .ref a_book_allMarks, .int book_count])), (a_book_allKeys, .inl (g 0, 200, .inl book_allKeys))] ++ TPl tp hd (g 0) F__4 n_) H → va_D A ([(a_book, .inr (2, [.ref a_book_allKeys, .ref a_book_allMarks, .int book_count])), (a_book_allKeys, .inl (g 0, 200, .inl book_allKeys))] ++ TPl tp hd (g 0) F__4 n_) → va_S A s.heap H locs → ∀ (ls : Array Slot), lv_has ls 8 [(0, .ref (tp j)), (1, .ref a_book), (2, .int (b2i isLast)), (3, .int x_1), (4, .int v4_3), (5, .int v5_2)] → W p l e (headSpec wqX9_thinOut ({ frames := 2, cells := 0, slots := 0, locals := 43 })).room s m ([.ref (tp j), .ref a_book, .int (b2i isLast)] : List Value).toArray below meth c H locs 0 0 QM (F0 m 67 ls []) := by
            intro  H locs hw hP hD hS ls hl
            refine lv_iconst (v := 1) hx hb dX9_thinOut_67 (by decide) ?_
            refine lv_goto (tgt := 72) hx hb dX9_thinOut_68 (by decide) ?_
            exact JN72 true _ _ hw (hP.part [0, 1] rfl) (hD.part [0, 1] (by decide) rfl) hS _ (lv_sub hl [0, 1, 2, 3, 4, 5] rfl)
          refine lv_if_lt (tgt := 67) hx hb dX9_thinOut_41 (by decide) (fun c_22 => ?_) (fun c_22 => ?_)
          · have hw := hw.1 c_22
            exact JN67  _ _ hw (hP.part [0, 1] rfl) (hD.part [0, 1] (by decide) rfl) hS _ (lv_sub hl [1, 2, 3, 4, 5, 6] rfl)
          · have hw := hw.2 c_22
            refine lv_iload hx hb dX9_thinOut_44 (lv_at hl 0 rfl) ?_
            refine lv_iload_n hx hb dX9_thinOut_46 rfl (lv_at hl 4 rfl) ?_
            refine lv_icmp_ge (tgt := 67) hx hb dX9_thinOut_47 (by decide) (fun c_23 => ?_) (fun c_23 => ?_)
            · have hw := hw.1 c_23
              exact JN67  _ _ hw (hP.part [0, 1] rfl) (hD.part [0, 1] (by decide) rfl) hS _ (lv_sub hl [1, 2, 3, 4, 5, 6] rfl)
            · have hw := hw.2 c_23
              refine lv_aload_n hx hb dX9_thinOut_50 rfl (lv_at hl 1 rfl) ?_
              refine lv_aload_n hx hb dX9_thinOut_51 rfl (lv_at hl 2 rfl) ?_
              refine lv_iload hx hb dX9_thinOut_52 (lv_at hl 0 rfl) ?_
              refine va_calli (va_runV (As := [.ref a_book, .int sk0_11]) (rest := []) ⟨hx, hb, hml, hown, hts⟩ (c_X9_keyAt l dC dI g tp hd (Wd := ([(a_book, .inr (2, [.ref a_book_allKeys, .ref a_book_allMarks, .int book_count])), (a_book_allKeys, .inl (g 0, 200, .inl book_allKeys))] ++ TPl tp hd (g 0) F__4 n_)) (a_book := a_book) (a_book_allKeys := a_book_allKeys) (a_book_allMarks := a_book_allMarks) (book_count := book_count) (book_allKeys := book_allKeys) (F_ := F__4) (n_ := n_) (j := j) (place := sk0_11) (hj_j := hj_j) (k_book := 0) (w_book := rfl) (k_book_allKeys := 1) (w_book_allKeys := rfl) (kT := _) (hT := TP_at) (hw := hw) (sz := H.size)) (cwV 2 hts (gqV aw_4_231 aw_4_232 aw_4_233 aw_1_3 aw_4_234) rfl rfl rfl (by decide +kernel) ⟨Nat.le_of_ble_eq_true rfl, Nat.le_of_ble_eq_true rfl⟩) ⟨PG_blind, va_recv hK hP (ci := 11) (q0 := _) rfl (TP_o hj_j), PG_call hK hG hS hP hD (A_all hD hA hS.1)⟩ rfl rfl hl.1 rfl (lv_room (Nat.le_of_ble_eq_true rfl)) dX9_thinOut_54 ⟨Nat.le_of_ble_eq_true rfl, Nat.le_of_ble_eq_true rfl⟩) hS (fun q _ h => (A_all hD hA hS.1) q h) (A_all hD hA hS.1) (fun r_24 u_24 t_24 H_24 L_24 ht_24 hvm_24 hw_24 hB_24 hz_24 hk_24 hS => ?_)
              rw [ht_24] at hB_24
              have hP : va_P (dC, dI) vwCl ([(a_book, .inr (2, [.ref a_book_allKeys, .ref a_book_allMarks, .int book_count])), (a_book_allKeys, .inl (g 0, 200, .inl book_allKeys))] ++ TPl tp hd (g 0) F__4 n_) H_24 := hB_24
              have hw := hw_24
              refine lv_aload_n hx hb dX9_thinOut_57 rfl (lv_at hl 1 rfl) ?_
              refine lv_aload_n hx hb dX9_thinOut_58 rfl (lv_at hl 2 rfl) ?_
              refine lv_iload hx hb dX9_thinOut_59 (lv_at hl 6 rfl) ?_
              refine va_calli (va_runV (As := [.ref a_book, .int v5_2]) (rest := [.int r_24]) ⟨hx, hb, hml, hown, hts⟩ (c_X9_keyAt l dC dI g tp hd (Wd := ([(a_book, .inr (2, [.ref a_book_allKeys, .ref a_book_allMarks, .int book_count])), (a_book_allKeys, .inl (g 0, 200, .inl book_allKeys))] ++ TPl tp hd (g 0) F__4 n_)) (a_book := a_book) (a_book_allKeys := a_book_allKeys) (a_book_allMarks := a_book_allMarks) (book_count := book_count) (book_allKeys := book_allKeys) (F_ := F__4) (n_ := n_) (j := j) (place := v5_2) (hj_j := hj_j) (k_book := 0) (w_book := rfl) (k_book_allKeys := 1) (w_book_allKeys := rfl) (kT := _) (hT := TP_at) (hw := hw) (sz := H_24.size)) (cwV 2 hts (gqV aw_4_231 aw_4_232 aw_4_233 aw_1_3 aw_4_234) rfl rfl rfl (by decide +kernel) ⟨Nat.le_of_ble_eq_true rfl, Nat.le_of_ble_eq_true rfl⟩) ⟨PG_blind, va_recv hK hP (ci := 11) (q0 := _) rfl (TP_o hj_j), PG_call hK hG hS hP hD (A_all hD hA hS.1)⟩ rfl rfl hl.1 rfl (lv_room (Nat.le_of_ble_eq_true rfl)) dX9_thinOut_61 ⟨Nat.le_of_ble_eq_true rfl, Nat.le_of_ble_eq_true rfl⟩) hS (fun q _ h => (A_all hD hA hS.1) q h) (A_all hD hA hS.1) (fun r_25 u_25 t_25 H_25 L_25 ht_25 hvm_25 hw_25 hB_25 hz_25 hk_25 hS => ?_)
              rw [ht_25] at hB_25
              have hP : va_P (dC, dI) vwCl ([(a_book, .inr (2, [.ref a_book_allKeys, .ref a_book_allMarks, .int book_count])), (a_book_allKeys, .inl (g 0, 200, .inl book_allKeys))] ++ TPl tp hd (g 0) F__4 n_) H_25 := hB_25
              have hw := hw_25
              refine lv_icmp_eq (tgt := 71) hx hb dX9_thinOut_64 (by decide) (fun c_26 => ?_) (fun c_26 => ?_)
              · have hw := hw.1 c_26
                refine lv_iconst (v := 0) hx hb dX9_thinOut_71 (by decide) ?_
                exact JN72 false _ _ hw (hP.part [0, 1] rfl) (hD.part [0, 1] (by decide) rfl) hS _ (lv_sub hl [1, 2, 3, 4, 5, 6] rfl)
              · have hw := hw.2 c_26
                exact JN67  _ _ hw (hP.part [0, 1] rfl) (hD.part [0, 1] (by decide) rfl) hS _ (lv_sub hl [1, 2, 3, 4, 5, 6] rfl)
        refine lv_if_eq (tgt := 33) hx hb dX9_thinOut_23 (by decide) (fun c_27 => ?_) (fun c_27 => ?_)
        · have hw := hw.1 (b2i_0 c_27)
          refine lv_iload hx hb dX9_thinOut_33 (lv_at hl 5 rfl) ?_
          refine lv_iconst (v := 1) hx hb dX9_thinOut_35 (by decide) ?_
          refine lv_isub hx hb dX9_thinOut_36 ?_
          refine lv_topi (fun x_28 ex_28 => ?_)
          have hw := hw x_28 ex_28
          exact JN37 x_28 _ _ hw (hP.part [0, 1] rfl) (hD.part [0, 1] (by decide) rfl) hS _ (lv_sub hl [0, 1, 2, 3, 4, 5] rfl)
        · have hw := hw.2 (b2i_1 c_27)
          refine lv_iload hx hb dX9_thinOut_26 (lv_at hl 5 rfl) ?_
          refine lv_iconst (v := 1) hx hb dX9_thinOut_28 (by decide) ?_
          refine lv_iadd hx hb dX9_thinOut_29 ?_
          refine lv_topi (fun x_29 ex_29 => ?_)
          have hw := hw x_29 ex_29
          refine lv_goto (tgt := 37) hx hb dX9_thinOut_30 (by decide) ?_
          exact JN37 x_29 _ _ hw (hP.part [0, 1] rfl) (hD.part [0, 1] (by decide) rfl) hS _ (lv_sub hl [0, 1, 2, 3, 4, 5] rfl)
  obtain ⟨n16, hw⟩ := hw
  exact LOOP16 n16 0 0 F_ _ _ hw (hP.part [0, 1] rfl) (hD.part [0, 1] (by decide) rfl) hS _ (lv_sub hl [3, 4, 5, 2, 1, 0] rfl)
theorem dX9_countBelow_0 : decode cX9_countBelow 0 = .ok (.iconst 0, 1) := by decide +kernel
theorem dX9_countBelow_1 : decode cX9_countBelow 1 = .ok (.istore_n 3, 1) := by decide +kernel
theorem dX9_countBelow_2 : decode cX9_countBelow 2 = .ok (.iconst 0, 1) := by decide +kernel
theorem dX9_countBelow_3 : decode cX9_countBelow 3 = .ok (.istore 4, 2) := by decide +kernel
theorem dX9_countBelow_39 : decode cX9_countBelow 39 = .ok (.iload_n 3, 1) := by decide +kernel
theorem dX9_countBelow_40 : decode cX9_countBelow 40 = .ok (.ireturn, 1) := by decide +kernel
theorem dX9_countBelow_5 : decode cX9_countBelow 5 = .ok (.iload 4, 2) := by decide +kernel
theorem dX9_countBelow_7 : decode cX9_countBelow 7 = .ok (.aload_n 0, 1) := by decide +kernel
theorem dX9_countBelow_8 : decode cX9_countBelow 8 = .ok (.getfield 15, 3) := by decide +kernel
theorem dX9_countBelow_11 : decode cX9_countBelow 11 = .ok (.if_icmp .ge 28, 3) := by decide +kernel
theorem dX9_countBelow_14 : decode cX9_countBelow 14 = .ok (.iload_n 3, 1) := by decide +kernel
theorem dX9_countBelow_15 : decode cX9_countBelow 15 = .ok (.aload_n 0, 1) := by decide +kernel
theorem dX9_countBelow_16 : decode cX9_countBelow 16 = .ok (.aload_n 1, 1) := by decide +kernel
theorem dX9_countBelow_17 : decode cX9_countBelow 17 = .ok (.iload 4, 2) := by decide +kernel
theorem dX9_countBelow_19 : decode cX9_countBelow 19 = .ok (.invokevirtual 37, 3) := by decide +kernel
theorem dX9_countBelow_22 : decode cX9_countBelow 22 = .ok (.iload_n 2, 1) := by decide +kernel
theorem dX9_countBelow_23 : decode cX9_countBelow 23 = .ok (.if_icmp .ge 7, 3) := by decide +kernel
theorem dX9_countBelow_30 : decode cX9_countBelow 30 = .ok (.iconst 0, 1) := by decide +kernel
theorem dX9_countBelow_31 : decode cX9_countBelow 31 = .ok (.iadd, 1) := by decide +kernel
theorem dX9_countBelow_32 : decode cX9_countBelow 32 = .ok (.istore_n 3, 1) := by decide +kernel
theorem dX9_countBelow_33 : decode cX9_countBelow 33 = .ok (.iinc 4 1, 3) := by decide +kernel
theorem dX9_countBelow_36 : decode cX9_countBelow 36 = .ok (.goto (-31), 3) := by decide +kernel
theorem dX9_countBelow_26 : decode cX9_countBelow 26 = .ok (.iconst 1, 1) := by decide +kernel
theorem dX9_countBelow_27 : decode cX9_countBelow 27 = .ok (.goto 4, 3) := by decide +kernel

set_option maxHeartbeats 8000000 in
set_option maxRecDepth 100000 in
theorem c_X9_countBelow (l : Launch) (dC : Nat → ClassId) (dI : Nat → Nat → Nat) (g : Nat → ClassId) (tp hd : Nat → Nat) (Wd : va_W) (a_book : Nat) (a_book_allKeys : Nat) (a_book_allMarks : Nat) (book_count : Int32) (book_allKeys : Nat → Int32) (F_ : Nat → Nat → Int32) (n_ : Nat → Int32) (j : Nat) (key : Int32) (hj_j : j < 18) (k_book : Nat) (w_book : Wd[k_book]? = some (a_book, .inr (2, [.ref a_book_allKeys, .ref a_book_allMarks, .int book_count]))) (k_book_allKeys : Nat) (w_book_allKeys : Wd[k_book_allKeys]? = some (a_book_allKeys, .inl (g 0, 200, .inl book_allKeys))) (kT : Nat) (hT : TPat Wd kT tp hd (g 0) F_ n_) (Q : Int32 → Prop) (hw : wp_X9_countBelow book_allKeys j key F_ n_ Q) (sz : Nat) : Met l yX9_countBelow wqX9_countBelow ({ frames := 2, cells := 0, slots := 0, locals := 43 }) (va_Pc [.ref (tp j), .ref a_book, .int key] (PG (dC, dI) g Wd sz)) (va_Qi (fun (r : Int32) (u : Unit) => Q r) (fun (u : Unit) t9 => va_P (dC, dI) vwCl Wd t9.heap) (va_A Wd sz)) 0 0 (va_A Wd sz) := by
  refine Met.ofW (cc := cX9_countBelow) (maxL := 5) (ret := (some .int)) (by decide) rfl ?_
  intro p e s m args below meth c s₁ B hml hv
  obtain ⟨rfl, hsz, hP, hK, hD0, hG⟩ := hv
  have hx := B.exec
  have hb := B.bytes
  have hr := B.returns
  have hts := atoms_spec (ws := wqX9_countBelow) B.pre
  have hown : s.vm.findClass RX9 = some m.cls := findClass_of_methodNamed B.named
  have hlocks := B.notSynchronized
  subst hsz
  have hD := hD0.self (sz := s.heap.size)
  generalize hAe : va_A Wd s.heap.size = A at hD hG ⊢
  have hA : ∀ q : Nat, s.heap.size ≤ q → A q := fun q h => by rw [← hAe]; exact Or.inr h
  have hS : va_S A s.heap s.heap [] := va_S.rf
  have hl := lv_entry ([.ref (tp j), .ref a_book, .int key]) (n := 5) (Nat.le_of_ble_eq_true rfl)
  rw [lg_entry_eq]
  generalize (lg_sl ([.ref (tp j), .ref a_book, .int key]) ++ List.replicate (5 - (lg_sl ([.ref (tp j), .ref a_book, .int key])).length) Slot.unset).toArray = ls at hl ⊢
  have hl : lv_has ls 5 [(0, .ref (tp j)), (1, .ref a_book), (2, .int key)] := hl
  unfold wp_X9_countBelow at hw
  have hf15 := hts (Cond.fieldLink RX9 15 "RunmergeOffice$Tape" "size" "I") (aw_l aw_1_66)
  have hiX9 : ∀ w ∈ u_ws RX9 TX9 2, w ∈ wqX9_countBelow := fun w h => aw_l (aw_wsX90 w h)
  refine lv_iconst (v := 0) hx hb dX9_countBelow_0 (by decide) ?_
  refine lv_istore_n (lv' := [(3, .int 0), (0, .ref (tp j)), (1, .ref a_book), (2, .int key)]) hx hb dX9_countBelow_1 rfl hl (by decide) rfl (fun ls hl => ?_)
  refine lv_iconst (v := 0) hx hb dX9_countBelow_2 (by decide) ?_
  refine lv_istore (lv' := [(4, .int 0), (3, .int 0), (0, .ref (tp j)), (1, .ref a_book), (2, .int key)]) hx hb dX9_countBelow_3 hl (by decide) rfl (fun ls hl => ?_)
  refine W_abs (fun QM hQM => ?_)
  have EX5_39 : ∀ (v3_3 : Int32) (H : Heap) (locs : List Loc), (wx_X9_countBelow_5_39 Q) v3_3 → va_P (dC, dI) vwCl Wd H → va_S A s.heap H locs → ∀ (ls : Array Slot), lv_has ls 5 [(3, .int v3_3)] → W p l e (headSpec wqX9_countBelow ({ frames := 2, cells := 0, slots := 0, locals := 43 })).room s m ([.ref (tp j), .ref a_book, .int key] : List Value).toArray below meth c H locs 0 0 QM (F0 m 39 ls []) := by
    intro v3_3 H locs hw hP hS ls hl
    refine lv_iload_n hx hb dX9_countBelow_39 rfl (lv_at hl 0 rfl) ?_
    subst hQM
    exact W.iret (v := v3_3) hx hb hr (fun t ht hW => ⟨⟨v3_3, (), rfl, hw, P_at ht hP⟩, hS.F ht⟩) hS.2.2 dX9_countBelow_40
  have LOOP5 : ∀ (n5 : Nat) (v4_1 : Int32) (v3_2 : Int32) (H : Heap) (locs : List Loc), wl_X9_countBelow_5 book_allKeys j key F_ n_ (wx_X9_countBelow_5_39 Q) n5 v4_1 v3_2 → va_P (dC, dI) vwCl Wd H → va_S A s.heap H locs → ∀ (ls : Array Slot), lv_has ls 5 [(0, .ref (tp j)), (1, .ref a_book), (2, .int key), (3, .int v3_2), (4, .int v4_1)] → W p l e (headSpec wqX9_countBelow ({ frames := 2, cells := 0, slots := 0, locals := 43 })).room s m ([.ref (tp j), .ref a_book, .int key] : List Value).toArray below meth c H locs 0 0 QM (F0 m 5 ls []) := by
    intro n5
    induction n5 with
    | zero =>
      intro v4_1 v3_2 H locs hw hP hS ls hl
      exact False.elim hw
    | succ n5 ih5 =>
      intro v4_1 v3_2 H locs hw hP hS ls hl
      rw [wl_X9_countBelow_5_s] at hw
      refine lv_iload hx hb dX9_countBelow_5 (lv_at hl 4 rfl) ?_
      refine lv_aload_n hx hb dX9_countBelow_7 rfl (lv_at hl 0 rfl) ?_
      refine va_get (D := (dC, dI)) (ci := 11) (v := .int (n_ j)) (C := RX9) (T := TX9) (N := 2) hx hb hts hiX9 hown hK hP _ (hT.o hj_j) rfl 1 (by decide) hf15 (fun _ h9 => h9) rfl dX9_countBelow_8 ?_
      refine lv_icmp_ge (tgt := 39) hx hb dX9_countBelow_11 (by decide) (fun c_4 => ?_) (fun c_4 => ?_)
      · have hw := hw.1 c_4
        exact EX5_39 v3_2 _ _ hw hP hS _ (lv_sub hl [3] rfl)
      · have hw := hw.2 c_4
        refine lv_iload_n hx hb dX9_countBelow_14 rfl (lv_at hl 3 rfl) ?_
        refine lv_aload_n hx hb dX9_countBelow_15 rfl (lv_at hl 0 rfl) ?_
        refine lv_aload_n hx hb dX9_countBelow_16 rfl (lv_at hl 1 rfl) ?_
        refine lv_iload hx hb dX9_countBelow_17 (lv_at hl 4 rfl) ?_
        refine va_calli (va_runV (As := [.ref a_book, .int v4_1]) (rest := [.int v3_2]) ⟨hx, hb, hml, hown, hts⟩ (c_X9_keyAt l dC dI g tp hd (Wd := Wd) (a_book := a_book) (a_book_allKeys := a_book_allKeys) (a_book_allMarks := a_book_allMarks) (book_count := book_count) (book_allKeys := book_allKeys) (F_ := F_) (n_ := n_) (j := j) (place := v4_1) (hj_j := hj_j) (k_book := k_book) (w_book := w_book) (k_book_allKeys := k_book_allKeys) (w_book_allKeys := w_book_allKeys) (kT := _) (hT := hT) (hw := hw) (sz := H.size)) (cwV 2 hts (gqV aw_4_231 aw_4_232 aw_4_233 aw_1_3 aw_4_234) rfl rfl rfl (by decide +kernel) ⟨Nat.le_of_ble_eq_true rfl, Nat.le_of_ble_eq_true rfl⟩) ⟨PG_blind, va_recv hK hP (ci := 11) (q0 := _) rfl (hT.o hj_j), PG_call hK hG hS hP hD (A_all hD hA hS.1)⟩ rfl rfl hl.1 rfl (lv_room (Nat.le_of_ble_eq_true rfl)) dX9_countBelow_19 ⟨Nat.le_of_ble_eq_true rfl, Nat.le_of_ble_eq_true rfl⟩) hS (fun q _ h => (A_all hD hA hS.1) q h) (A_all hD hA hS.1) (fun r_5 u_5 t_5 H_5 L_5 ht_5 hvm_5 hw_5 hB_5 hz_5 hk_5 hS => ?_)
        rw [ht_5] at hB_5
        have hP : va_P (dC, dI) vwCl Wd H_5 := hB_5
        have hw := hw_5
        refine lv_iload_n hx hb dX9_countBelow_22 rfl (lv_at hl 2 rfl) ?_
        refine lv_icmp_ge (tgt := 30) hx hb dX9_countBelow_23 (by decide) (fun c_6 => ?_) (fun c_6 => ?_)
        · have hw := hw.1 c_6
          refine lv_iconst (v := 0) hx hb dX9_countBelow_30 (by decide) ?_
          refine lv_iadd hx hb dX9_countBelow_31 ?_
          refine lv_topi (fun x_7 ex_7 => ?_)
          have hw := hw x_7 ex_7
          refine lv_istore_n (lv' := [(3, .int x_7), (0, .ref (tp j)), (1, .ref a_book), (2, .int key), (4, .int v4_1)]) hx hb dX9_countBelow_32 rfl hl (by decide) rfl (fun ls hl => ?_)
          obtain ⟨x_8, ex_8⟩ : ∃ y : Int32, y = v4_1 + 1 := ⟨_, rfl⟩
          have hw := hw x_8 ex_8
          refine lv_iinc (v := x_8) (lv' := [(4, .int x_8), (3, .int x_7), (0, .ref (tp j)), (1, .ref a_book), (2, .int key)]) hx hb dX9_countBelow_33 hl (k := 4) rfl (by rw [ex_8]; rfl) (by decide) rfl (fun ls hl => ?_)
          refine lv_goto (tgt := 5) hx hb dX9_countBelow_36 (by decide) ?_
          exact ih5 x_8 x_7 _ _ hw hP hS _ (lv_sub hl [2, 3, 4, 1, 0] rfl)
        · have hw := hw.2 c_6
          refine lv_iconst (v := 1) hx hb dX9_countBelow_26 (by decide) ?_
          refine lv_goto (tgt := 31) hx hb dX9_countBelow_27 (by decide) ?_
          refine lv_iadd hx hb dX9_countBelow_31 ?_
          refine lv_topi (fun x_9 ex_9 => ?_)
          have hw := hw x_9 ex_9
          refine lv_istore_n (lv' := [(3, .int x_9), (0, .ref (tp j)), (1, .ref a_book), (2, .int key), (4, .int v4_1)]) hx hb dX9_countBelow_32 rfl hl (by decide) rfl (fun ls hl => ?_)
          obtain ⟨x_10, ex_10⟩ : ∃ y : Int32, y = v4_1 + 1 := ⟨_, rfl⟩
          have hw := hw x_10 ex_10
          refine lv_iinc (v := x_10) (lv' := [(4, .int x_10), (3, .int x_9), (0, .ref (tp j)), (1, .ref a_book), (2, .int key)]) hx hb dX9_countBelow_33 hl (k := 4) rfl (by rw [ex_10]; rfl) (by decide) rfl (fun ls hl => ?_)
          refine lv_goto (tgt := 5) hx hb dX9_countBelow_36 (by decide) ?_
          exact ih5 x_10 x_9 _ _ hw hP hS _ (lv_sub hl [2, 3, 4, 1, 0] rfl)
  obtain ⟨n5, hw⟩ := hw
  exact LOOP5 n5 0 0 _ _ hw hP hS _ (lv_sub hl [2, 3, 4, 1, 0] rfl)
theorem dX9_countUpTo_0 : decode cX9_countUpTo 0 = .ok (.iconst 0, 1) := by decide +kernel
theorem dX9_countUpTo_1 : decode cX9_countUpTo 1 = .ok (.istore_n 3, 1) := by decide +kernel
theorem dX9_countUpTo_2 : decode cX9_countUpTo 2 = .ok (.iconst 0, 1) := by decide +kernel
theorem dX9_countUpTo_3 : decode cX9_countUpTo 3 = .ok (.istore 4, 2) := by decide +kernel
theorem dX9_countUpTo_39 : decode cX9_countUpTo 39 = .ok (.iload_n 3, 1) := by decide +kernel
theorem dX9_countUpTo_40 : decode cX9_countUpTo 40 = .ok (.ireturn, 1) := by decide +kernel
theorem dX9_countUpTo_5 : decode cX9_countUpTo 5 = .ok (.iload 4, 2) := by decide +kernel
theorem dX9_countUpTo_7 : decode cX9_countUpTo 7 = .ok (.aload_n 0, 1) := by decide +kernel
theorem dX9_countUpTo_8 : decode cX9_countUpTo 8 = .ok (.getfield 15, 3) := by decide +kernel
theorem dX9_countUpTo_11 : decode cX9_countUpTo 11 = .ok (.if_icmp .ge 28, 3) := by decide +kernel
theorem dX9_countUpTo_14 : decode cX9_countUpTo 14 = .ok (.iload_n 3, 1) := by decide +kernel
theorem dX9_countUpTo_15 : decode cX9_countUpTo 15 = .ok (.aload_n 0, 1) := by decide +kernel
theorem dX9_countUpTo_16 : decode cX9_countUpTo 16 = .ok (.aload_n 1, 1) := by decide +kernel
theorem dX9_countUpTo_17 : decode cX9_countUpTo 17 = .ok (.iload 4, 2) := by decide +kernel
theorem dX9_countUpTo_19 : decode cX9_countUpTo 19 = .ok (.invokevirtual 37, 3) := by decide +kernel
theorem dX9_countUpTo_22 : decode cX9_countUpTo 22 = .ok (.iload_n 2, 1) := by decide +kernel
theorem dX9_countUpTo_23 : decode cX9_countUpTo 23 = .ok (.if_icmp .gt 7, 3) := by decide +kernel
theorem dX9_countUpTo_30 : decode cX9_countUpTo 30 = .ok (.iconst 0, 1) := by decide +kernel
theorem dX9_countUpTo_31 : decode cX9_countUpTo 31 = .ok (.iadd, 1) := by decide +kernel
theorem dX9_countUpTo_32 : decode cX9_countUpTo 32 = .ok (.istore_n 3, 1) := by decide +kernel
theorem dX9_countUpTo_33 : decode cX9_countUpTo 33 = .ok (.iinc 4 1, 3) := by decide +kernel
theorem dX9_countUpTo_36 : decode cX9_countUpTo 36 = .ok (.goto (-31), 3) := by decide +kernel
theorem dX9_countUpTo_26 : decode cX9_countUpTo 26 = .ok (.iconst 1, 1) := by decide +kernel
theorem dX9_countUpTo_27 : decode cX9_countUpTo 27 = .ok (.goto 4, 3) := by decide +kernel

set_option maxHeartbeats 8000000 in
set_option maxRecDepth 100000 in
theorem c_X9_countUpTo (l : Launch) (dC : Nat → ClassId) (dI : Nat → Nat → Nat) (g : Nat → ClassId) (tp hd : Nat → Nat) (Wd : va_W) (a_book : Nat) (a_book_allKeys : Nat) (a_book_allMarks : Nat) (book_count : Int32) (book_allKeys : Nat → Int32) (F_ : Nat → Nat → Int32) (n_ : Nat → Int32) (j : Nat) (key : Int32) (hj_j : j < 18) (k_book : Nat) (w_book : Wd[k_book]? = some (a_book, .inr (2, [.ref a_book_allKeys, .ref a_book_allMarks, .int book_count]))) (k_book_allKeys : Nat) (w_book_allKeys : Wd[k_book_allKeys]? = some (a_book_allKeys, .inl (g 0, 200, .inl book_allKeys))) (kT : Nat) (hT : TPat Wd kT tp hd (g 0) F_ n_) (Q : Int32 → Prop) (hw : wp_X9_countUpTo book_allKeys j key F_ n_ Q) (sz : Nat) : Met l yX9_countUpTo wqX9_countUpTo ({ frames := 2, cells := 0, slots := 0, locals := 43 }) (va_Pc [.ref (tp j), .ref a_book, .int key] (PG (dC, dI) g Wd sz)) (va_Qi (fun (r : Int32) (u : Unit) => Q r) (fun (u : Unit) t9 => va_P (dC, dI) vwCl Wd t9.heap) (va_A Wd sz)) 0 0 (va_A Wd sz) := by
  refine Met.ofW (cc := cX9_countUpTo) (maxL := 5) (ret := (some .int)) (by decide) rfl ?_
  intro p e s m args below meth c s₁ B hml hv
  obtain ⟨rfl, hsz, hP, hK, hD0, hG⟩ := hv
  have hx := B.exec
  have hb := B.bytes
  have hr := B.returns
  have hts := atoms_spec (ws := wqX9_countUpTo) B.pre
  have hown : s.vm.findClass RX9 = some m.cls := findClass_of_methodNamed B.named
  have hlocks := B.notSynchronized
  subst hsz
  have hD := hD0.self (sz := s.heap.size)
  generalize hAe : va_A Wd s.heap.size = A at hD hG ⊢
  have hA : ∀ q : Nat, s.heap.size ≤ q → A q := fun q h => by rw [← hAe]; exact Or.inr h
  have hS : va_S A s.heap s.heap [] := va_S.rf
  have hl := lv_entry ([.ref (tp j), .ref a_book, .int key]) (n := 5) (Nat.le_of_ble_eq_true rfl)
  rw [lg_entry_eq]
  generalize (lg_sl ([.ref (tp j), .ref a_book, .int key]) ++ List.replicate (5 - (lg_sl ([.ref (tp j), .ref a_book, .int key])).length) Slot.unset).toArray = ls at hl ⊢
  have hl : lv_has ls 5 [(0, .ref (tp j)), (1, .ref a_book), (2, .int key)] := hl
  unfold wp_X9_countUpTo at hw
  have hf15 := hts (Cond.fieldLink RX9 15 "RunmergeOffice$Tape" "size" "I") (aw_l aw_1_66)
  have hiX9 : ∀ w ∈ u_ws RX9 TX9 2, w ∈ wqX9_countUpTo := fun w h => aw_l (aw_wsX90 w h)
  refine lv_iconst (v := 0) hx hb dX9_countUpTo_0 (by decide) ?_
  refine lv_istore_n (lv' := [(3, .int 0), (0, .ref (tp j)), (1, .ref a_book), (2, .int key)]) hx hb dX9_countUpTo_1 rfl hl (by decide) rfl (fun ls hl => ?_)
  refine lv_iconst (v := 0) hx hb dX9_countUpTo_2 (by decide) ?_
  refine lv_istore (lv' := [(4, .int 0), (3, .int 0), (0, .ref (tp j)), (1, .ref a_book), (2, .int key)]) hx hb dX9_countUpTo_3 hl (by decide) rfl (fun ls hl => ?_)
  refine W_abs (fun QM hQM => ?_)
  have EX5_39 : ∀ (v3_3 : Int32) (H : Heap) (locs : List Loc), (wx_X9_countUpTo_5_39 Q) v3_3 → va_P (dC, dI) vwCl Wd H → va_S A s.heap H locs → ∀ (ls : Array Slot), lv_has ls 5 [(3, .int v3_3)] → W p l e (headSpec wqX9_countUpTo ({ frames := 2, cells := 0, slots := 0, locals := 43 })).room s m ([.ref (tp j), .ref a_book, .int key] : List Value).toArray below meth c H locs 0 0 QM (F0 m 39 ls []) := by
    intro v3_3 H locs hw hP hS ls hl
    refine lv_iload_n hx hb dX9_countUpTo_39 rfl (lv_at hl 0 rfl) ?_
    subst hQM
    exact W.iret (v := v3_3) hx hb hr (fun t ht hW => ⟨⟨v3_3, (), rfl, hw, P_at ht hP⟩, hS.F ht⟩) hS.2.2 dX9_countUpTo_40
  have LOOP5 : ∀ (n5 : Nat) (v4_1 : Int32) (v3_2 : Int32) (H : Heap) (locs : List Loc), wl_X9_countUpTo_5 book_allKeys j key F_ n_ (wx_X9_countUpTo_5_39 Q) n5 v4_1 v3_2 → va_P (dC, dI) vwCl Wd H → va_S A s.heap H locs → ∀ (ls : Array Slot), lv_has ls 5 [(0, .ref (tp j)), (1, .ref a_book), (2, .int key), (3, .int v3_2), (4, .int v4_1)] → W p l e (headSpec wqX9_countUpTo ({ frames := 2, cells := 0, slots := 0, locals := 43 })).room s m ([.ref (tp j), .ref a_book, .int key] : List Value).toArray below meth c H locs 0 0 QM (F0 m 5 ls []) := by
    intro n5
    induction n5 with
    | zero =>
      intro v4_1 v3_2 H locs hw hP hS ls hl
      exact False.elim hw
    | succ n5 ih5 =>
      intro v4_1 v3_2 H locs hw hP hS ls hl
      rw [wl_X9_countUpTo_5_s] at hw
      refine lv_iload hx hb dX9_countUpTo_5 (lv_at hl 4 rfl) ?_
      refine lv_aload_n hx hb dX9_countUpTo_7 rfl (lv_at hl 0 rfl) ?_
      refine va_get (D := (dC, dI)) (ci := 11) (v := .int (n_ j)) (C := RX9) (T := TX9) (N := 2) hx hb hts hiX9 hown hK hP _ (hT.o hj_j) rfl 1 (by decide) hf15 (fun _ h9 => h9) rfl dX9_countUpTo_8 ?_
      refine lv_icmp_ge (tgt := 39) hx hb dX9_countUpTo_11 (by decide) (fun c_4 => ?_) (fun c_4 => ?_)
      · have hw := hw.1 c_4
        exact EX5_39 v3_2 _ _ hw hP hS _ (lv_sub hl [3] rfl)
      · have hw := hw.2 c_4
        refine lv_iload_n hx hb dX9_countUpTo_14 rfl (lv_at hl 3 rfl) ?_
        refine lv_aload_n hx hb dX9_countUpTo_15 rfl (lv_at hl 0 rfl) ?_
        refine lv_aload_n hx hb dX9_countUpTo_16 rfl (lv_at hl 1 rfl) ?_
        refine lv_iload hx hb dX9_countUpTo_17 (lv_at hl 4 rfl) ?_
        refine va_calli (va_runV (As := [.ref a_book, .int v4_1]) (rest := [.int v3_2]) ⟨hx, hb, hml, hown, hts⟩ (c_X9_keyAt l dC dI g tp hd (Wd := Wd) (a_book := a_book) (a_book_allKeys := a_book_allKeys) (a_book_allMarks := a_book_allMarks) (book_count := book_count) (book_allKeys := book_allKeys) (F_ := F_) (n_ := n_) (j := j) (place := v4_1) (hj_j := hj_j) (k_book := k_book) (w_book := w_book) (k_book_allKeys := k_book_allKeys) (w_book_allKeys := w_book_allKeys) (kT := _) (hT := hT) (hw := hw) (sz := H.size)) (cwV 2 hts (gqV aw_4_231 aw_4_232 aw_4_233 aw_1_3 aw_4_234) rfl rfl rfl (by decide +kernel) ⟨Nat.le_of_ble_eq_true rfl, Nat.le_of_ble_eq_true rfl⟩) ⟨PG_blind, va_recv hK hP (ci := 11) (q0 := _) rfl (hT.o hj_j), PG_call hK hG hS hP hD (A_all hD hA hS.1)⟩ rfl rfl hl.1 rfl (lv_room (Nat.le_of_ble_eq_true rfl)) dX9_countUpTo_19 ⟨Nat.le_of_ble_eq_true rfl, Nat.le_of_ble_eq_true rfl⟩) hS (fun q _ h => (A_all hD hA hS.1) q h) (A_all hD hA hS.1) (fun r_5 u_5 t_5 H_5 L_5 ht_5 hvm_5 hw_5 hB_5 hz_5 hk_5 hS => ?_)
        rw [ht_5] at hB_5
        have hP : va_P (dC, dI) vwCl Wd H_5 := hB_5
        have hw := hw_5
        refine lv_iload_n hx hb dX9_countUpTo_22 rfl (lv_at hl 2 rfl) ?_
        refine lv_icmp_gt (tgt := 30) hx hb dX9_countUpTo_23 (by decide) (fun c_6 => ?_) (fun c_6 => ?_)
        · have hw := hw.1 c_6
          refine lv_iconst (v := 0) hx hb dX9_countUpTo_30 (by decide) ?_
          refine lv_iadd hx hb dX9_countUpTo_31 ?_
          refine lv_topi (fun x_7 ex_7 => ?_)
          have hw := hw x_7 ex_7
          refine lv_istore_n (lv' := [(3, .int x_7), (0, .ref (tp j)), (1, .ref a_book), (2, .int key), (4, .int v4_1)]) hx hb dX9_countUpTo_32 rfl hl (by decide) rfl (fun ls hl => ?_)
          obtain ⟨x_8, ex_8⟩ : ∃ y : Int32, y = v4_1 + 1 := ⟨_, rfl⟩
          have hw := hw x_8 ex_8
          refine lv_iinc (v := x_8) (lv' := [(4, .int x_8), (3, .int x_7), (0, .ref (tp j)), (1, .ref a_book), (2, .int key)]) hx hb dX9_countUpTo_33 hl (k := 4) rfl (by rw [ex_8]; rfl) (by decide) rfl (fun ls hl => ?_)
          refine lv_goto (tgt := 5) hx hb dX9_countUpTo_36 (by decide) ?_
          exact ih5 x_8 x_7 _ _ hw hP hS _ (lv_sub hl [2, 3, 4, 1, 0] rfl)
        · have hw := hw.2 c_6
          refine lv_iconst (v := 1) hx hb dX9_countUpTo_26 (by decide) ?_
          refine lv_goto (tgt := 31) hx hb dX9_countUpTo_27 (by decide) ?_
          refine lv_iadd hx hb dX9_countUpTo_31 ?_
          refine lv_topi (fun x_9 ex_9 => ?_)
          have hw := hw x_9 ex_9
          refine lv_istore_n (lv' := [(3, .int x_9), (0, .ref (tp j)), (1, .ref a_book), (2, .int key), (4, .int v4_1)]) hx hb dX9_countUpTo_32 rfl hl (by decide) rfl (fun ls hl => ?_)
          obtain ⟨x_10, ex_10⟩ : ∃ y : Int32, y = v4_1 + 1 := ⟨_, rfl⟩
          have hw := hw x_10 ex_10
          refine lv_iinc (v := x_10) (lv' := [(4, .int x_10), (3, .int x_9), (0, .ref (tp j)), (1, .ref a_book), (2, .int key)]) hx hb dX9_countUpTo_33 hl (k := 4) rfl (by rw [ex_10]; rfl) (by decide) rfl (fun ls hl => ?_)
          refine lv_goto (tgt := 5) hx hb dX9_countUpTo_36 (by decide) ?_
          exact ih5 x_10 x_9 _ _ hw hP hS _ (lv_sub hl [2, 3, 4, 1, 0] rfl)
  obtain ⟨n5, hw⟩ := hw
  exact LOOP5 n5 0 0 _ _ hw hP hS _ (lv_sub hl [2, 3, 4, 1, 0] rfl)
theorem dX9_holdsKey_0 : decode cX9_holdsKey 0 = .ok (.iconst 0, 1) := by decide +kernel
theorem dX9_holdsKey_1 : decode cX9_holdsKey 1 = .ok (.istore_n 3, 1) := by decide +kernel
theorem dX9_holdsKey_20 : decode cX9_holdsKey 20 = .ok (.iconst 1, 1) := by decide +kernel
theorem dX9_holdsKey_21 : decode cX9_holdsKey 21 = .ok (.ireturn, 1) := by decide +kernel
theorem dX9_holdsKey_28 : decode cX9_holdsKey 28 = .ok (.iconst 0, 1) := by decide +kernel
theorem dX9_holdsKey_29 : decode cX9_holdsKey 29 = .ok (.ireturn, 1) := by decide +kernel
theorem dX9_holdsKey_2 : decode cX9_holdsKey 2 = .ok (.iload_n 3, 1) := by decide +kernel
theorem dX9_holdsKey_3 : decode cX9_holdsKey 3 = .ok (.aload_n 0, 1) := by decide +kernel
theorem dX9_holdsKey_4 : decode cX9_holdsKey 4 = .ok (.getfield 15, 3) := by decide +kernel
theorem dX9_holdsKey_7 : decode cX9_holdsKey 7 = .ok (.if_icmp .ge 21, 3) := by decide +kernel
theorem dX9_holdsKey_10 : decode cX9_holdsKey 10 = .ok (.aload_n 0, 1) := by decide +kernel
theorem dX9_holdsKey_11 : decode cX9_holdsKey 11 = .ok (.aload_n 1, 1) := by decide +kernel
theorem dX9_holdsKey_12 : decode cX9_holdsKey 12 = .ok (.iload_n 3, 1) := by decide +kernel
theorem dX9_holdsKey_13 : decode cX9_holdsKey 13 = .ok (.invokevirtual 37, 3) := by decide +kernel
theorem dX9_holdsKey_16 : decode cX9_holdsKey 16 = .ok (.iload_n 2, 1) := by decide +kernel
theorem dX9_holdsKey_17 : decode cX9_holdsKey 17 = .ok (.if_icmp .ne 5, 3) := by decide +kernel
theorem dX9_holdsKey_22 : decode cX9_holdsKey 22 = .ok (.iinc 3 1, 3) := by decide +kernel
theorem dX9_holdsKey_25 : decode cX9_holdsKey 25 = .ok (.goto (-23), 3) := by decide +kernel

set_option maxHeartbeats 8000000 in
set_option maxRecDepth 100000 in
theorem c_X9_holdsKey (l : Launch) (dC : Nat → ClassId) (dI : Nat → Nat → Nat) (g : Nat → ClassId) (tp hd : Nat → Nat) (Wd : va_W) (a_book : Nat) (a_book_allKeys : Nat) (a_book_allMarks : Nat) (book_count : Int32) (book_allKeys : Nat → Int32) (F_ : Nat → Nat → Int32) (n_ : Nat → Int32) (j : Nat) (key : Int32) (hj_j : j < 18) (k_book : Nat) (w_book : Wd[k_book]? = some (a_book, .inr (2, [.ref a_book_allKeys, .ref a_book_allMarks, .int book_count]))) (k_book_allKeys : Nat) (w_book_allKeys : Wd[k_book_allKeys]? = some (a_book_allKeys, .inl (g 0, 200, .inl book_allKeys))) (kT : Nat) (hT : TPat Wd kT tp hd (g 0) F_ n_) (Q : Bool → Prop) (hw : wp_X9_holdsKey book_allKeys j key F_ n_ Q) (sz : Nat) : Met l yX9_holdsKey wqX9_holdsKey ({ frames := 2, cells := 0, slots := 0, locals := 43 }) (va_Pc [.ref (tp j), .ref a_book, .int key] (PG (dC, dI) g Wd sz)) (va_Qi (fun (r : Int32) (u : Unit) => ∃ b : Bool, r = b2i b ∧ Q b) (fun (u : Unit) t9 => va_P (dC, dI) vwCl Wd t9.heap) (va_A Wd sz)) 0 0 (va_A Wd sz) := by
  refine Met.ofW (cc := cX9_holdsKey) (maxL := 4) (ret := (some .boolean)) (by decide) rfl ?_
  intro p e s m args below meth c s₁ B hml hv
  obtain ⟨rfl, hsz, hP, hK, hD0, hG⟩ := hv
  have hx := B.exec
  have hb := B.bytes
  have hr := B.returns
  have hts := atoms_spec (ws := wqX9_holdsKey) B.pre
  have hown : s.vm.findClass RX9 = some m.cls := findClass_of_methodNamed B.named
  have hlocks := B.notSynchronized
  subst hsz
  have hD := hD0.self (sz := s.heap.size)
  generalize hAe : va_A Wd s.heap.size = A at hD hG ⊢
  have hA : ∀ q : Nat, s.heap.size ≤ q → A q := fun q h => by rw [← hAe]; exact Or.inr h
  have hS : va_S A s.heap s.heap [] := va_S.rf
  have hl := lv_entry ([.ref (tp j), .ref a_book, .int key]) (n := 4) (Nat.le_of_ble_eq_true rfl)
  rw [lg_entry_eq]
  generalize (lg_sl ([.ref (tp j), .ref a_book, .int key]) ++ List.replicate (4 - (lg_sl ([.ref (tp j), .ref a_book, .int key])).length) Slot.unset).toArray = ls at hl ⊢
  have hl : lv_has ls 4 [(0, .ref (tp j)), (1, .ref a_book), (2, .int key)] := hl
  unfold wp_X9_holdsKey at hw
  have hf15 := hts (Cond.fieldLink RX9 15 "RunmergeOffice$Tape" "size" "I") (aw_l aw_1_66)
  have hiX9 : ∀ w ∈ u_ws RX9 TX9 2, w ∈ wqX9_holdsKey := fun w h => aw_l (aw_wsX90 w h)
  refine lv_iconst (v := 0) hx hb dX9_holdsKey_0 (by decide) ?_
  refine lv_istore_n (lv' := [(3, .int 0), (0, .ref (tp j)), (1, .ref a_book), (2, .int key)]) hx hb dX9_holdsKey_1 rfl hl (by decide) rfl (fun ls hl => ?_)
  refine W_abs (fun QM hQM => ?_)
  have EX2_20 : ∀  (H : Heap) (locs : List Loc), (wx_X9_holdsKey_2_20 Q)  → va_P (dC, dI) vwCl Wd H → va_S A s.heap H locs → ∀ (ls : Array Slot), lv_has ls 4 [] → W p l e (headSpec wqX9_holdsKey ({ frames := 2, cells := 0, slots := 0, locals := 43 })).room s m ([.ref (tp j), .ref a_book, .int key] : List Value).toArray below meth c H locs 0 0 QM (F0 m 20 ls []) := by
    intro  H locs hw hP hS ls hl
    refine lv_iconst (v := 1) hx hb dX9_holdsKey_20 (by decide) ?_
    subst hQM
    exact W.zret (v := 1) hx hb hr rfl (fun t ht hW => ⟨⟨_, (), rfl, ⟨true, rfl, hw⟩, P_at ht hP⟩, hS.F ht⟩) hS.2.2 dX9_holdsKey_21
  have EX2_28 : ∀  (H : Heap) (locs : List Loc), (wx_X9_holdsKey_2_28 Q)  → va_P (dC, dI) vwCl Wd H → va_S A s.heap H locs → ∀ (ls : Array Slot), lv_has ls 4 [] → W p l e (headSpec wqX9_holdsKey ({ frames := 2, cells := 0, slots := 0, locals := 43 })).room s m ([.ref (tp j), .ref a_book, .int key] : List Value).toArray below meth c H locs 0 0 QM (F0 m 28 ls []) := by
    intro  H locs hw hP hS ls hl
    refine lv_iconst (v := 0) hx hb dX9_holdsKey_28 (by decide) ?_
    subst hQM
    exact W.zret (v := 0) hx hb hr rfl (fun t ht hW => ⟨⟨_, (), rfl, ⟨false, rfl, hw⟩, P_at ht hP⟩, hS.F ht⟩) hS.2.2 dX9_holdsKey_29
  have LOOP2 : ∀ (n2 : Nat) (v3_1 : Int32) (H : Heap) (locs : List Loc), wl_X9_holdsKey_2 book_allKeys j key F_ n_ (wx_X9_holdsKey_2_20 Q) (wx_X9_holdsKey_2_28 Q) n2 v3_1 → va_P (dC, dI) vwCl Wd H → va_S A s.heap H locs → ∀ (ls : Array Slot), lv_has ls 4 [(0, .ref (tp j)), (1, .ref a_book), (2, .int key), (3, .int v3_1)] → W p l e (headSpec wqX9_holdsKey ({ frames := 2, cells := 0, slots := 0, locals := 43 })).room s m ([.ref (tp j), .ref a_book, .int key] : List Value).toArray below meth c H locs 0 0 QM (F0 m 2 ls []) := by
    intro n2
    induction n2 with
    | zero =>
      intro v3_1 H locs hw hP hS ls hl
      exact False.elim hw
    | succ n2 ih2 =>
      intro v3_1 H locs hw hP hS ls hl
      rw [wl_X9_holdsKey_2_s] at hw
      refine lv_iload_n hx hb dX9_holdsKey_2 rfl (lv_at hl 3 rfl) ?_
      refine lv_aload_n hx hb dX9_holdsKey_3 rfl (lv_at hl 0 rfl) ?_
      refine va_get (D := (dC, dI)) (ci := 11) (v := .int (n_ j)) (C := RX9) (T := TX9) (N := 2) hx hb hts hiX9 hown hK hP _ (hT.o hj_j) rfl 1 (by decide) hf15 (fun _ h9 => h9) rfl dX9_holdsKey_4 ?_
      refine lv_icmp_ge (tgt := 28) hx hb dX9_holdsKey_7 (by decide) (fun c_2 => ?_) (fun c_2 => ?_)
      · have hw := hw.1 c_2
        exact EX2_28  _ _ hw hP hS _ (lv_sub hl [] rfl)
      · have hw := hw.2 c_2
        refine lv_aload_n hx hb dX9_holdsKey_10 rfl (lv_at hl 0 rfl) ?_
        refine lv_aload_n hx hb dX9_holdsKey_11 rfl (lv_at hl 1 rfl) ?_
        refine lv_iload_n hx hb dX9_holdsKey_12 rfl (lv_at hl 3 rfl) ?_
        refine va_calli (va_runV (As := [.ref a_book, .int v3_1]) (rest := []) ⟨hx, hb, hml, hown, hts⟩ (c_X9_keyAt l dC dI g tp hd (Wd := Wd) (a_book := a_book) (a_book_allKeys := a_book_allKeys) (a_book_allMarks := a_book_allMarks) (book_count := book_count) (book_allKeys := book_allKeys) (F_ := F_) (n_ := n_) (j := j) (place := v3_1) (hj_j := hj_j) (k_book := k_book) (w_book := w_book) (k_book_allKeys := k_book_allKeys) (w_book_allKeys := w_book_allKeys) (kT := _) (hT := hT) (hw := hw) (sz := H.size)) (cwV 2 hts (gqV aw_4_231 aw_4_232 aw_4_233 aw_1_3 aw_4_234) rfl rfl rfl (by decide +kernel) ⟨Nat.le_of_ble_eq_true rfl, Nat.le_of_ble_eq_true rfl⟩) ⟨PG_blind, va_recv hK hP (ci := 11) (q0 := _) rfl (hT.o hj_j), PG_call hK hG hS hP hD (A_all hD hA hS.1)⟩ rfl rfl hl.1 rfl (lv_room (Nat.le_of_ble_eq_true rfl)) dX9_holdsKey_13 ⟨Nat.le_of_ble_eq_true rfl, Nat.le_of_ble_eq_true rfl⟩) hS (fun q _ h => (A_all hD hA hS.1) q h) (A_all hD hA hS.1) (fun r_3 u_3 t_3 H_3 L_3 ht_3 hvm_3 hw_3 hB_3 hz_3 hk_3 hS => ?_)
        rw [ht_3] at hB_3
        have hP : va_P (dC, dI) vwCl Wd H_3 := hB_3
        have hw := hw_3
        refine lv_iload_n hx hb dX9_holdsKey_16 rfl (lv_at hl 2 rfl) ?_
        refine lv_icmp_ne (tgt := 22) hx hb dX9_holdsKey_17 (by decide) (fun c_4 => ?_) (fun c_4 => ?_)
        · have hw := hw.2 c_4
          obtain ⟨x_5, ex_5⟩ : ∃ y : Int32, y = v3_1 + 1 := ⟨_, rfl⟩
          have hw := hw x_5 ex_5
          refine lv_iinc (v := x_5) (lv' := [(3, .int x_5), (0, .ref (tp j)), (1, .ref a_book), (2, .int key)]) hx hb dX9_holdsKey_22 hl (k := 3) rfl (by rw [ex_5]; rfl) (by decide) rfl (fun ls hl => ?_)
          refine lv_goto (tgt := 2) hx hb dX9_holdsKey_25 (by decide) ?_
          exact ih2 x_5 _ _ hw hP hS _ (lv_sub hl [1, 2, 3, 0] rfl)
        · have hw := hw.1 c_4
          exact EX2_20  _ _ hw hP hS _ (lv_sub hl [] rfl)
  obtain ⟨n2, hw⟩ := hw
  exact LOOP2 n2 0 _ _ hw hP hS _ (lv_sub hl [1, 2, 3, 0] rfl)
theorem dX9_unite_0 : decode cX9_unite 0 = .ok (.iconst 0, 1) := by decide +kernel
theorem dX9_unite_1 : decode cX9_unite 1 = .ok (.istore 4, 2) := by decide +kernel
theorem dX9_unite_3 : decode cX9_unite 3 = .ok (.iconst 0, 1) := by decide +kernel
theorem dX9_unite_4 : decode cX9_unite 4 = .ok (.istore 5, 2) := by decide +kernel
theorem dX9_unite_6 : decode cX9_unite 6 = .ok (.aload_n 2, 1) := by decide +kernel
theorem dX9_unite_7 : decode cX9_unite 7 = .ok (.getfield 15, 3) := by decide +kernel
theorem dX9_unite_10 : decode cX9_unite 10 = .ok (.aload_n 3, 1) := by decide +kernel
theorem dX9_unite_11 : decode cX9_unite 11 = .ok (.getfield 15, 3) := by decide +kernel
theorem dX9_unite_14 : decode cX9_unite 14 = .ok (.iadd, 1) := by decide +kernel
theorem dX9_unite_15 : decode cX9_unite 15 = .ok (.istore 6, 2) := by decide +kernel
theorem dX9_unite_17 : decode cX9_unite 17 = .ok (.iconst 0, 1) := by decide +kernel
theorem dX9_unite_18 : decode cX9_unite 18 = .ok (.istore 7, 2) := by decide +kernel
theorem dX9_unite_137 : decode cX9_unite 137 = .ok (.return_, 1) := by decide +kernel
theorem dX9_unite_20 : decode cX9_unite 20 = .ok (.iload 7, 2) := by decide +kernel
theorem dX9_unite_22 : decode cX9_unite 22 = .ok (.iload 6, 2) := by decide +kernel
theorem dX9_unite_24 : decode cX9_unite 24 = .ok (.if_icmp .ge 113, 3) := by decide +kernel
theorem dX9_unite_27 : decode cX9_unite 27 = .ok (.aload_n 2, 1) := by decide +kernel
theorem dX9_unite_28 : decode cX9_unite 28 = .ok (.iload 4, 2) := by decide +kernel
theorem dX9_unite_30 : decode cX9_unite 30 = .ok (.invokevirtual 19, 3) := by decide +kernel
theorem dX9_unite_33 : decode cX9_unite 33 = .ok (.istore 8, 2) := by decide +kernel
theorem dX9_unite_35 : decode cX9_unite 35 = .ok (.aload_n 3, 1) := by decide +kernel
theorem dX9_unite_36 : decode cX9_unite 36 = .ok (.iload 5, 2) := by decide +kernel
theorem dX9_unite_38 : decode cX9_unite 38 = .ok (.invokevirtual 19, 3) := by decide +kernel
theorem dX9_unite_41 : decode cX9_unite 41 = .ok (.istore 9, 2) := by decide +kernel
theorem dX9_unite_43 : decode cX9_unite 43 = .ok (.iload 4, 2) := by decide +kernel
theorem dX9_unite_45 : decode cX9_unite 45 = .ok (.aload_n 2, 1) := by decide +kernel
theorem dX9_unite_46 : decode cX9_unite 46 = .ok (.getfield 15, 3) := by decide +kernel
theorem dX9_unite_83 : decode cX9_unite 83 = .ok (.istore 10, 2) := by decide +kernel
theorem dX9_unite_85 : decode cX9_unite 85 = .ok (.aload_n 0, 1) := by decide +kernel
theorem dX9_unite_86 : decode cX9_unite 86 = .ok (.iload 10, 2) := by decide +kernel
theorem dX9_unite_98 : decode cX9_unite 98 = .ok (.invokevirtual 41, 3) := by decide +kernel
theorem dX9_unite_101 : decode cX9_unite 101 = .ok (.iload 4, 2) := by decide +kernel
theorem dX9_unite_103 : decode cX9_unite 103 = .ok (.iload 10, 2) := by decide +kernel
theorem dX9_unite_113 : decode cX9_unite 113 = .ok (.iadd, 1) := by decide +kernel
theorem dX9_unite_114 : decode cX9_unite 114 = .ok (.istore 4, 2) := by decide +kernel
theorem dX9_unite_116 : decode cX9_unite 116 = .ok (.iload 5, 2) := by decide +kernel
theorem dX9_unite_118 : decode cX9_unite 118 = .ok (.iload 10, 2) := by decide +kernel
theorem dX9_unite_120 : decode cX9_unite 120 = .ok (.ifCond .eq 7, 3) := by decide +kernel
theorem dX9_unite_127 : decode cX9_unite 127 = .ok (.iconst 0, 1) := by decide +kernel
theorem dX9_unite_128 : decode cX9_unite 128 = .ok (.iadd, 1) := by decide +kernel
theorem dX9_unite_129 : decode cX9_unite 129 = .ok (.istore 5, 2) := by decide +kernel
theorem dX9_unite_131 : decode cX9_unite 131 = .ok (.iinc 7 1, 3) := by decide +kernel
theorem dX9_unite_134 : decode cX9_unite 134 = .ok (.goto (-114), 3) := by decide +kernel
theorem dX9_unite_123 : decode cX9_unite 123 = .ok (.iconst 1, 1) := by decide +kernel
theorem dX9_unite_124 : decode cX9_unite 124 = .ok (.goto 4, 3) := by decide +kernel
theorem dX9_unite_105 : decode cX9_unite 105 = .ok (.ifCond .eq 7, 3) := by decide +kernel
theorem dX9_unite_112 : decode cX9_unite 112 = .ok (.iconst 1, 1) := by decide +kernel
theorem dX9_unite_108 : decode cX9_unite 108 = .ok (.iconst 0, 1) := by decide +kernel
theorem dX9_unite_109 : decode cX9_unite 109 = .ok (.goto 4, 3) := by decide +kernel
theorem dX9_unite_88 : decode cX9_unite 88 = .ok (.ifCond .eq 8, 3) := by decide +kernel
theorem dX9_unite_96 : decode cX9_unite 96 = .ok (.iload 8, 2) := by decide +kernel
theorem dX9_unite_91 : decode cX9_unite 91 = .ok (.iload 9, 2) := by decide +kernel
theorem dX9_unite_93 : decode cX9_unite 93 = .ok (.goto 5, 3) := by decide +kernel
theorem dX9_unite_78 : decode cX9_unite 78 = .ok (.iconst 1, 1) := by decide +kernel
theorem dX9_unite_79 : decode cX9_unite 79 = .ok (.goto 4, 3) := by decide +kernel
theorem dX9_unite_49 : decode cX9_unite 49 = .ok (.if_icmp .ge 29, 3) := by decide +kernel
theorem dX9_unite_52 : decode cX9_unite 52 = .ok (.iload 5, 2) := by decide +kernel
theorem dX9_unite_54 : decode cX9_unite 54 = .ok (.aload_n 3, 1) := by decide +kernel
theorem dX9_unite_55 : decode cX9_unite 55 = .ok (.getfield 15, 3) := by decide +kernel
theorem dX9_unite_82 : decode cX9_unite 82 = .ok (.iconst 0, 1) := by decide +kernel
theorem dX9_unite_58 : decode cX9_unite 58 = .ok (.if_icmp .ge 24, 3) := by decide +kernel
theorem dX9_unite_61 : decode cX9_unite 61 = .ok (.aload_n 1, 1) := by decide +kernel
theorem dX9_unite_62 : decode cX9_unite 62 = .ok (.iload 9, 2) := by decide +kernel
theorem dX9_unite_64 : decode cX9_unite 64 = .ok (.iconst 0, 1) := by decide +kernel
theorem dX9_unite_65 : decode cX9_unite 65 = .ok (.invokevirtual 34, 3) := by decide +kernel
theorem dX9_unite_68 : decode cX9_unite 68 = .ok (.aload_n 1, 1) := by decide +kernel
theorem dX9_unite_69 : decode cX9_unite 69 = .ok (.iload 8, 2) := by decide +kernel
theorem dX9_unite_71 : decode cX9_unite 71 = .ok (.iconst 0, 1) := by decide +kernel
theorem dX9_unite_72 : decode cX9_unite 72 = .ok (.invokevirtual 34, 3) := by decide +kernel
theorem dX9_unite_75 : decode cX9_unite 75 = .ok (.if_icmp .ge 7, 3) := by decide +kernel
abbrev Wa_X9_unite (g : Nat → ClassId) (tp : Nat → Nat) (hd : Nat → Nat) (a_book : Nat) (a_book_allKeys : Nat) (a_book_allMarks : Nat) (book_count : Int32) (book_allKeys : Nat → Int32) (F_ : Nat → Nat → Int32) (n_ : Nat → Int32) : va_W := ([(a_book, .inr (2, [.ref a_book_allKeys, .ref a_book_allMarks, .int book_count])), (a_book_allKeys, .inl (g 0, 200, .inl book_allKeys))] ++ TPl tp hd (g 0) F_ n_)
abbrev Wb_X9_unite (g : Nat → ClassId) (tp : Nat → Nat) (hd : Nat → Nat) (a_book : Nat) (a_book_allKeys : Nat) (a_book_allMarks : Nat) (book_count : Int32) (book_allKeys : Nat → Int32) (u : (Nat → Nat → Int32) × (Nat → Int32) × Unit) : va_W := ([(a_book, .inr (2, [.ref a_book_allKeys, .ref a_book_allMarks, .int book_count])), (a_book_allKeys, .inl (g 0, 200, .inl book_allKeys))] ++ TPl tp hd (g 0) u.1 u.2.1)
set_option maxHeartbeats 8000000 in
set_option maxRecDepth 100000 in
theorem c_X9_unite (l : Launch) (dC : Nat → ClassId) (dI : Nat → Nat → Nat) (g : Nat → ClassId) (tp hd : Nat → Nat) (a_book : Nat) (a_book_allKeys : Nat) (a_book_allMarks : Nat) (book_count : Int32) (book_allKeys : Nat → Int32) (F_ : Nat → Nat → Int32) (n_ : Nat → Int32) (j : Nat) (first : Nat) (second : Nat) (hj_j : j < 18) (hj_first : first < 18) (hj_second : second < 18) (Q : (Nat → Nat → Int32) → (Nat → Int32) → Prop) (hw : wp_X9_unite book_allKeys j first second F_ n_ Q) (sz : Nat) : Met l yX9_unite wqX9_unite ({ frames := 1, cells := 0, slots := 0, locals := 23 }) (va_Pc [.ref (tp j), .ref a_book, .ref (tp first), .ref (tp second)] (PG (dC, dI) g (Wa_X9_unite g tp hd a_book a_book_allKeys a_book_allMarks book_count book_allKeys F_ n_) sz)) (va_Qv (fun (u : (Nat → Nat → Int32) × (Nat → Int32) × Unit) => Q u.1 u.2.1) (fun (u : (Nat → Nat → Int32) × (Nat → Int32) × Unit) t9 => va_P (dC, dI) vwCl (Wb_X9_unite g tp hd a_book a_book_allKeys a_book_allMarks book_count book_allKeys u) t9.heap ∧ va_D (va_A (Wa_X9_unite g tp hd a_book a_book_allKeys a_book_allMarks book_count book_allKeys F_ n_) sz) (Wb_X9_unite g tp hd a_book a_book_allKeys a_book_allMarks book_count book_allKeys u)) (va_A (Wa_X9_unite g tp hd a_book a_book_allKeys a_book_allMarks book_count book_allKeys F_ n_) sz)) 0 0 (va_A (Wa_X9_unite g tp hd a_book a_book_allKeys a_book_allMarks book_count book_allKeys F_ n_) sz) := by
  refine Met.ofW (cc := cX9_unite) (maxL := 11) (ret := none) (by decide) rfl ?_
  intro p e s m args below meth c s₁ B hml hv
  obtain ⟨rfl, hsz, hP, hK, hD0, hG⟩ := hv
  have hx := B.exec
  have hb := B.bytes
  have hr := B.returns
  have hts := atoms_spec (ws := wqX9_unite) B.pre
  have hown : s.vm.findClass RX9 = some m.cls := findClass_of_methodNamed B.named
  have hlocks := B.notSynchronized
  subst hsz
  have hD := hD0.self (sz := s.heap.size)
  generalize hAe : va_A (Wa_X9_unite g tp hd a_book a_book_allKeys a_book_allMarks book_count book_allKeys F_ n_) s.heap.size = A at hD hG ⊢
  have hA : ∀ q : Nat, s.heap.size ≤ q → A q := fun q h => by rw [← hAe]; exact Or.inr h
  have hS : va_S A s.heap s.heap [] := va_S.rf
  have hl := lv_entry ([.ref (tp j), .ref a_book, .ref (tp first), .ref (tp second)]) (n := 11) (Nat.le_of_ble_eq_true rfl)
  rw [lg_entry_eq]
  generalize (lg_sl ([.ref (tp j), .ref a_book, .ref (tp first), .ref (tp second)]) ++ List.replicate (11 - (lg_sl ([.ref (tp j), .ref a_book, .ref (tp first), .ref (tp second)])).length) Slot.unset).toArray = ls at hl ⊢
  have hl : lv_has ls 11 [(0, .ref (tp j)), (1, .ref a_book), (2, .ref (tp first)), (3, .ref (tp second))] := hl
  unfold wp_X9_unite at hw
  have hf15 := hts (Cond.fieldLink RX9 15 "RunmergeOffice$Tape" "size" "I") (aw_l aw_1_66)
  have hiX9 : ∀ w ∈ u_ws RX9 TX9 2, w ∈ wqX9_unite := fun w h => aw_l (aw_wsX90 w h)
  refine lv_iconst (v := 0) hx hb dX9_unite_0 (by decide) ?_
  refine lv_istore (lv' := [(4, .int 0), (0, .ref (tp j)), (1, .ref a_book), (2, .ref (tp first)), (3, .ref (tp second))]) hx hb dX9_unite_1 hl (by decide) rfl (fun ls hl => ?_)
  refine lv_iconst (v := 0) hx hb dX9_unite_3 (by decide) ?_
  refine lv_istore (lv' := [(5, .int 0), (4, .int 0), (0, .ref (tp j)), (1, .ref a_book), (2, .ref (tp first)), (3, .ref (tp second))]) hx hb dX9_unite_4 hl (by decide) rfl (fun ls hl => ?_)
  refine lv_aload_n hx hb dX9_unite_6 rfl (lv_at hl 4 rfl) ?_
  refine va_get (D := (dC, dI)) (ci := 11) (v := .int (n_ first)) (C := RX9) (T := TX9) (N := 2) hx hb hts hiX9 hown hK hP _ (TP_o hj_first) rfl 1 (by decide) hf15 (fun _ h9 => h9) rfl dX9_unite_7 ?_
  refine lv_aload_n hx hb dX9_unite_10 rfl (lv_at hl 5 rfl) ?_
  refine va_get (D := (dC, dI)) (ci := 11) (v := .int (n_ second)) (C := RX9) (T := TX9) (N := 2) hx hb hts hiX9 hown hK hP _ (TP_o hj_second) rfl 1 (by decide) hf15 (fun _ h9 => h9) rfl dX9_unite_11 ?_
  refine lv_iadd hx hb dX9_unite_14 ?_
  refine lv_topi (fun x_1 ex_1 => ?_)
  have hw := hw x_1 ex_1
  refine lv_istore (lv' := [(6, .int x_1), (5, .int 0), (4, .int 0), (0, .ref (tp j)), (1, .ref a_book), (2, .ref (tp first)), (3, .ref (tp second))]) hx hb dX9_unite_15 hl (by decide) rfl (fun ls hl => ?_)
  refine lv_iconst (v := 0) hx hb dX9_unite_17 (by decide) ?_
  refine lv_istore (lv' := [(7, .int 0), (6, .int x_1), (5, .int 0), (4, .int 0), (0, .ref (tp j)), (1, .ref a_book), (2, .ref (tp first)), (3, .ref (tp second))]) hx hb dX9_unite_18 hl (by decide) rfl (fun ls hl => ?_)
  refine W_abs (fun QM hQM => ?_)
  have EX20_137 : ∀ (F__7 : Nat → Nat → Int32) (n__8 : Nat → Int32) (H : Heap) (locs : List Loc), (wx_X9_unite_20_137 Q) F__7 n__8 → va_P (dC, dI) vwCl ([(a_book, .inr (2, [.ref a_book_allKeys, .ref a_book_allMarks, .int book_count])), (a_book_allKeys, .inl (g 0, 200, .inl book_allKeys))] ++ TPl tp hd (g 0) F__7 n__8) H → va_D A ([(a_book, .inr (2, [.ref a_book_allKeys, .ref a_book_allMarks, .int book_count])), (a_book_allKeys, .inl (g 0, 200, .inl book_allKeys))] ++ TPl tp hd (g 0) F__7 n__8) → va_S A s.heap H locs → ∀ (ls : Array Slot), lv_has ls 11 [] → W p l e (headSpec wqX9_unite ({ frames := 1, cells := 0, slots := 0, locals := 23 })).room s m ([.ref (tp j), .ref a_book, .ref (tp first), .ref (tp second)] : List Value).toArray below meth c H locs 0 0 QM (F0 m 137 ls []) := by
    intro F__7 n__8 H locs hw hP hD hS ls hl
    subst hQM
    have hP9 := va_P.part (cx := [(a_book, .inr (2, [.ref a_book_allKeys, .ref a_book_allMarks, .int book_count])), (a_book_allKeys, .inl (g 0, 200, .inl book_allKeys))]) hP [0, 1] rfl
    have hD9 := va_D.part (cx := [(a_book, .inr (2, [.ref a_book_allKeys, .ref a_book_allMarks, .int book_count])), (a_book_allKeys, .inl (g 0, 200, .inl book_allKeys))]) hD [0, 1] (by decide) rfl
    exact W.vret hx hb hr (fun t ht hW => ⟨⟨(F__7, n__8, ()), rfl, hw, ⟨P_at ht hP9, hD9⟩⟩, hS.F ht⟩) hS.2.2 dX9_unite_137
  have LOOP20 : ∀ (n20 : Nat) (v7_2 : Int32) (v4_3 : Int32) (F__4 : Nat → Nat → Int32) (n__5 : Nat → Int32) (v5_6 : Int32) (H : Heap) (locs : List Loc), wl_X9_unite_20 book_allKeys j first second x_1 (wx_X9_unite_20_137 Q) n20 v7_2 v4_3 F__4 n__5 v5_6 → va_P (dC, dI) vwCl ([(a_book, .inr (2, [.ref a_book_allKeys, .ref a_book_allMarks, .int book_count])), (a_book_allKeys, .inl (g 0, 200, .inl book_allKeys))] ++ TPl tp hd (g 0) F__4 n__5) H → va_D A ([(a_book, .inr (2, [.ref a_book_allKeys, .ref a_book_allMarks, .int book_count])), (a_book_allKeys, .inl (g 0, 200, .inl book_allKeys))] ++ TPl tp hd (g 0) F__4 n__5) → va_S A s.heap H locs → ∀ (ls : Array Slot), lv_has ls 11 [(0, .ref (tp j)), (1, .ref a_book), (2, .ref (tp first)), (3, .ref (tp second)), (4, .int v4_3), (5, .int v5_6), (6, .int x_1), (7, .int v7_2)] → W p l e (headSpec wqX9_unite ({ frames := 1, cells := 0, slots := 0, locals := 23 })).room s m ([.ref (tp j), .ref a_book, .ref (tp first), .ref (tp second)] : List Value).toArray below meth c H locs 0 0 QM (F0 m 20 ls []) := by
    intro n20
    induction n20 with
    | zero =>
      intro v7_2 v4_3 F__4 n__5 v5_6 H locs hw hP hD hS ls hl
      exact False.elim hw
    | succ n20 ih20 =>
      intro v7_2 v4_3 F__4 n__5 v5_6 H locs hw hP hD hS ls hl
      rw [wl_X9_unite_20_s] at hw
      refine lv_iload hx hb dX9_unite_20 (lv_at hl 7 rfl) ?_
      refine lv_iload hx hb dX9_unite_22 (lv_at hl 6 rfl) ?_
      refine lv_icmp_ge (tgt := 137) hx hb dX9_unite_24 (by decide) (fun c_9 => ?_) (fun c_9 => ?_)
      · have hw := hw.1 c_9
        exact EX20_137 F__4 n__5 _ _ hw (hP.part [0, 1] rfl) (hD.part [0, 1] (by decide) rfl) hS _ (lv_sub hl [] rfl)
      · have hw := hw.2 c_9
        refine lv_aload_n hx hb dX9_unite_27 rfl (lv_at hl 2 rfl) ?_
        refine lv_iload hx hb dX9_unite_28 (lv_at hl 4 rfl) ?_
        refine va_calli (va_runV (As := [.int v4_3]) (rest := []) ⟨hx, hb, hml, hown, hts⟩ (c_X9_recordAt l dC dI g tp hd (Wd := ([(a_book, .inr (2, [.ref a_book_allKeys, .ref a_book_allMarks, .int book_count])), (a_book_allKeys, .inl (g 0, 200, .inl book_allKeys))] ++ TPl tp hd (g 0) F__4 n__5)) (F_ := F__4) (n_ := n__5) (j := first) (place := v4_3) (hj_j := hj_first) (kT := _) (hT := TP_at) (hw := hw) (sz := H.size)) (cwV 1 hts (gqV aw_4_220 aw_3_171 aw_3_172 aw_1_3 aw_3_173) rfl rfl rfl (by decide +kernel) ⟨Nat.le_of_ble_eq_true rfl, Nat.le_of_ble_eq_true rfl⟩) ⟨PG_blind, va_recv hK hP (ci := 11) (q0 := _) rfl (TP_o hj_first), PG_call hK hG hS hP hD (A_all hD hA hS.1)⟩ rfl rfl hl.1 rfl (lv_room (Nat.le_of_ble_eq_true rfl)) dX9_unite_30 ⟨Nat.le_of_ble_eq_true rfl, Nat.le_of_ble_eq_true rfl⟩) hS (fun q _ h => (A_all hD hA hS.1) q h) (A_all hD hA hS.1) (fun r_10 u_10 t_10 H_10 L_10 ht_10 hvm_10 hw_10 hB_10 hz_10 hk_10 hS => ?_)
        rw [ht_10] at hB_10
        have hP : va_P (dC, dI) vwCl ([(a_book, .inr (2, [.ref a_book_allKeys, .ref a_book_allMarks, .int book_count])), (a_book_allKeys, .inl (g 0, 200, .inl book_allKeys))] ++ TPl tp hd (g 0) F__4 n__5) H_10 := hB_10
        have hw := hw_10
        refine lv_istore (lv' := [(8, .int r_10), (0, .ref (tp j)), (1, .ref a_book), (2, .ref (tp first)), (3, .ref (tp second)), (4, .int v4_3), (5, .int v5_6), (6, .int x_1), (7, .int v7_2)]) hx hb dX9_unite_33 hl (by decide) rfl (fun ls hl => ?_)
        refine lv_aload_n hx hb dX9_unite_35 rfl (lv_at hl 4 rfl) ?_
        refine lv_iload hx hb dX9_unite_36 (lv_at hl 6 rfl) ?_
        refine va_calli (va_runV (As := [.int v5_6]) (rest := []) ⟨hx, hb, hml, hown, hts⟩ (c_X9_recordAt l dC dI g tp hd (Wd := ([(a_book, .inr (2, [.ref a_book_allKeys, .ref a_book_allMarks, .int book_count])), (a_book_allKeys, .inl (g 0, 200, .inl book_allKeys))] ++ TPl tp hd (g 0) F__4 n__5)) (F_ := F__4) (n_ := n__5) (j := second) (place := v5_6) (hj_j := hj_second) (kT := _) (hT := TP_at) (hw := hw) (sz := H_10.size)) (cwV 1 hts (gqV aw_4_220 aw_3_171 aw_3_172 aw_1_3 aw_3_173) rfl rfl rfl (by decide +kernel) ⟨Nat.le_of_ble_eq_true rfl, Nat.le_of_ble_eq_true rfl⟩) ⟨PG_blind, va_recv hK hP (ci := 11) (q0 := _) rfl (TP_o hj_second), PG_call hK hG hS hP hD (A_all hD hA hS.1)⟩ rfl rfl hl.1 rfl (lv_room (Nat.le_of_ble_eq_true rfl)) dX9_unite_38 ⟨Nat.le_of_ble_eq_true rfl, Nat.le_of_ble_eq_true rfl⟩) hS (fun q _ h => (A_all hD hA hS.1) q h) (A_all hD hA hS.1) (fun r_11 u_11 t_11 H_11 L_11 ht_11 hvm_11 hw_11 hB_11 hz_11 hk_11 hS => ?_)
        rw [ht_11] at hB_11
        have hP : va_P (dC, dI) vwCl ([(a_book, .inr (2, [.ref a_book_allKeys, .ref a_book_allMarks, .int book_count])), (a_book_allKeys, .inl (g 0, 200, .inl book_allKeys))] ++ TPl tp hd (g 0) F__4 n__5) H_11 := hB_11
        have hw := hw_11
        refine lv_istore (lv' := [(9, .int r_11), (8, .int r_10), (0, .ref (tp j)), (1, .ref a_book), (2, .ref (tp first)), (3, .ref (tp second)), (4, .int v4_3), (5, .int v5_6), (6, .int x_1), (7, .int v7_2)]) hx hb dX9_unite_41 hl (by decide) rfl (fun ls hl => ?_)
        refine lv_iload hx hb dX9_unite_43 (lv_at hl 6 rfl) ?_
        refine lv_aload_n hx hb dX9_unite_45 rfl (lv_at hl 4 rfl) ?_
        refine va_get (D := (dC, dI)) (ci := 11) (v := .int (n__5 first)) (C := RX9) (T := TX9) (N := 2) hx hb hts hiX9 hown hK hP _ (TP_o hj_first) rfl 1 (by decide) hf15 (fun _ h9 => h9) rfl dX9_unite_46 ?_
        have JN83 : ∀ (sk0_12 : Bool) (H : Heap) (locs : List Loc), (wj_X9_unite_83 j v7_2 v4_3 F__4 n__5 v5_6 (wl_X9_unite_20 book_allKeys j first second x_1 (wx_X9_unite_20_137 Q) n20) r_10 r_11) sk0_12 → va_P (dC, dI) vwCl ([(a_book, .inr (2, [.ref a_book_allKeys, .ref a_book_allMarks, .int book_count])), (a_book_allKeys, .inl (g 0, 200, .inl book_allKeys))] ++ TPl tp hd (g 0) F__4 n__5) H → va_D A ([(a_book, .inr (2, [.ref a_book_allKeys, .ref a_book_allMarks, .int book_count])), (a_book_allKeys, .inl (g 0, 200, .inl book_allKeys))] ++ TPl tp hd (g 0) F__4 n__5) → va_S A s.heap H locs → ∀ (ls : Array Slot), lv_has ls 11 [(0, .ref (tp j)), (1, .ref a_book), (2, .ref (tp first)), (3, .ref (tp second)), (4, .int v4_3), (5, .int v5_6), (6, .int x_1), (7, .int v7_2), (8, .int r_10), (9, .int r_11)] → W p l e (headSpec wqX9_unite ({ frames := 1, cells := 0, slots := 0, locals := 23 })).room s m ([.ref (tp j), .ref a_book, .ref (tp first), .ref (tp second)] : List Value).toArray below meth c H locs 0 0 QM (F0 m 83 ls [.int (b2i sk0_12)]) := by
          intro sk0_12 H locs hw hP hD hS ls hl
          refine lv_istore (lv' := [(10, .int (b2i sk0_12)), (0, .ref (tp j)), (1, .ref a_book), (2, .ref (tp first)), (3, .ref (tp second)), (4, .int v4_3), (5, .int v5_6), (6, .int x_1), (7, .int v7_2), (8, .int r_10), (9, .int r_11)]) hx hb dX9_unite_83 hl (by decide) rfl (fun ls hl => ?_)
          refine lv_aload_n hx hb dX9_unite_85 rfl (lv_at hl 1 rfl) ?_
          refine lv_iload hx hb dX9_unite_86 (lv_at hl 0 rfl) ?_
          have JN98 : ∀ (sk0_13 : Int32) (H : Heap) (locs : List Loc), (wj_X9_unite_98 j v7_2 v4_3 F__4 n__5 v5_6 (wl_X9_unite_20 book_allKeys j first second x_1 (wx_X9_unite_20_137 Q) n20) sk0_12) sk0_13 → va_P (dC, dI) vwCl ([(a_book, .inr (2, [.ref a_book_allKeys, .ref a_book_allMarks, .int book_count])), (a_book_allKeys, .inl (g 0, 200, .inl book_allKeys))] ++ TPl tp hd (g 0) F__4 n__5) H → va_D A ([(a_book, .inr (2, [.ref a_book_allKeys, .ref a_book_allMarks, .int book_count])), (a_book_allKeys, .inl (g 0, 200, .inl book_allKeys))] ++ TPl tp hd (g 0) F__4 n__5) → va_S A s.heap H locs → ∀ (ls : Array Slot), lv_has ls 11 [(0, .ref (tp j)), (1, .ref a_book), (2, .ref (tp first)), (3, .ref (tp second)), (4, .int v4_3), (5, .int v5_6), (6, .int x_1), (7, .int v7_2), (10, .int (b2i sk0_12))] → W p l e (headSpec wqX9_unite ({ frames := 1, cells := 0, slots := 0, locals := 23 })).room s m ([.ref (tp j), .ref a_book, .ref (tp first), .ref (tp second)] : List Value).toArray below meth c H locs 0 0 QM (F0 m 98 ls [.int sk0_13, .ref (tp j)]) := by
            intro sk0_13 H locs hw hP hD hS ls hl
            have hPc := va_P.part (cx := []) hP [] rfl
            have hDc := va_D.part (cx := []) hD [] (by decide) rfl
            have hFc := va_freeP (cx := []) hD hS hA [] rfl
            refine va_callv (va_runV (As := [.int sk0_13]) (rest := []) ⟨hx, hb, hml, hown, hts⟩ (c_X9_add l dC dI g tp hd (F_ := F__4) (n_ := n__5) (j := j) (record := sk0_13) (hj_j := hj_j) (hw := hw) (sz := H.size)) (cwV 1 hts (gqV aw_4_226 aw_3_115 aw_3_116 aw_1_3 aw_3_117) rfl rfl rfl (by decide +kernel) ⟨Nat.le_of_ble_eq_true rfl, Nat.le_of_ble_eq_true rfl⟩) ⟨PG_blind, va_recv hK hP (ci := 11) (q0 := _) rfl (TP_o hj_j), PG_call hK hG hS hPc hDc hFc⟩ rfl rfl hl.1 rfl (lv_room (Nat.le_of_ble_eq_true rfl)) dX9_unite_98 ⟨Nat.le_of_ble_eq_true rfl, Nat.le_of_ble_eq_true rfl⟩) hS (fun q _ h => hFc q h) hFc (fun u_14 t_14 H_14 L_14 ht_14 hvm_14 hw_14 hB_14 hz_14 hk_14 hS => ?_)
            obtain ⟨F__15, n__16, u_14⟩ := u_14
            obtain ⟨hP1, hD1⟩ := hB_14
            rw [ht_14] at hP1
            obtain ⟨hP, hD⟩ := va_joinP (wr := [(a_book, .inr (2, [.ref a_book_allKeys, .ref a_book_allMarks, .int book_count])), (a_book_allKeys, .inl (g 0, 200, .inl book_allKeys))]) (rx := []) (pl1 := TPl tp hd (g 0) F__15 n__16) hP hD [] [0, 1] rfl rfl (by decide) (by decide) hk_14 hFc hP1 hD1
            have hP : va_P (dC, dI) vwCl ([(a_book, .inr (2, [.ref a_book_allKeys, .ref a_book_allMarks, .int book_count])), (a_book_allKeys, .inl (g 0, 200, .inl book_allKeys))] ++ TPl tp hd (g 0) F__15 n__16) H_14 := hP
            have hD : va_D A ([(a_book, .inr (2, [.ref a_book_allKeys, .ref a_book_allMarks, .int book_count])), (a_book_allKeys, .inl (g 0, 200, .inl book_allKeys))] ++ TPl tp hd (g 0) F__15 n__16) := hD
            have hw := hw_14
            refine lv_iload hx hb dX9_unite_101 (lv_at hl 4 rfl) ?_
            refine lv_iload hx hb dX9_unite_103 (lv_at hl 8 rfl) ?_
            have JN113 : ∀ (sk0_17 : Bool) (H : Heap) (locs : List Loc), (wj_X9_unite_113 v7_2 v4_3 v5_6 (wl_X9_unite_20 book_allKeys j first second x_1 (wx_X9_unite_20_137 Q) n20) sk0_12 F__15 n__16) sk0_17 → va_P (dC, dI) vwCl ([(a_book, .inr (2, [.ref a_book_allKeys, .ref a_book_allMarks, .int book_count])), (a_book_allKeys, .inl (g 0, 200, .inl book_allKeys))] ++ TPl tp hd (g 0) F__15 n__16) H → va_D A ([(a_book, .inr (2, [.ref a_book_allKeys, .ref a_book_allMarks, .int book_count])), (a_book_allKeys, .inl (g 0, 200, .inl book_allKeys))] ++ TPl tp hd (g 0) F__15 n__16) → va_S A s.heap H locs → ∀ (ls : Array Slot), lv_has ls 11 [(0, .ref (tp j)), (1, .ref a_book), (2, .ref (tp first)), (3, .ref (tp second)), (5, .int v5_6), (6, .int x_1), (7, .int v7_2), (10, .int (b2i sk0_12))] → W p l e (headSpec wqX9_unite ({ frames := 1, cells := 0, slots := 0, locals := 23 })).room s m ([.ref (tp j), .ref a_book, .ref (tp first), .ref (tp second)] : List Value).toArray below meth c H locs 0 0 QM (F0 m 113 ls [.int (b2i sk0_17), .int v4_3]) := by
              intro sk0_17 H locs hw hP hD hS ls hl
              refine lv_iadd hx hb dX9_unite_113 ?_
              refine lv_topi (fun x_18 ex_18 => ?_)
              have hw := hw x_18 ex_18
              refine lv_istore (lv' := [(4, .int x_18), (0, .ref (tp j)), (1, .ref a_book), (2, .ref (tp first)), (3, .ref (tp second)), (5, .int v5_6), (6, .int x_1), (7, .int v7_2), (10, .int (b2i sk0_12))]) hx hb dX9_unite_114 hl (by decide) rfl (fun ls hl => ?_)
              refine lv_iload hx hb dX9_unite_116 (lv_at hl 5 rfl) ?_
              refine lv_iload hx hb dX9_unite_118 (lv_at hl 8 rfl) ?_
              refine lv_if_eq (tgt := 127) hx hb dX9_unite_120 (by decide) (fun c_19 => ?_) (fun c_19 => ?_)
              · have hw := hw.1 (b2i_0 c_19)
                refine lv_iconst (v := 0) hx hb dX9_unite_127 (by decide) ?_
                refine lv_iadd hx hb dX9_unite_128 ?_
                refine lv_topi (fun x_20 ex_20 => ?_)
                have hw := hw x_20 ex_20
                refine lv_istore (lv' := [(5, .int x_20), (4, .int x_18), (0, .ref (tp j)), (1, .ref a_book), (2, .ref (tp first)), (3, .ref (tp second)), (6, .int x_1), (7, .int v7_2), (10, .int (b2i sk0_12))]) hx hb dX9_unite_129 hl (by decide) rfl (fun ls hl => ?_)
                obtain ⟨x_21, ex_21⟩ : ∃ y : Int32, y = v7_2 + 1 := ⟨_, rfl⟩
                have hw := hw x_21 ex_21
                refine lv_iinc (v := x_21) (lv' := [(7, .int x_21), (5, .int x_20), (4, .int x_18), (0, .ref (tp j)), (1, .ref a_book), (2, .ref (tp first)), (3, .ref (tp second)), (6, .int x_1), (10, .int (b2i sk0_12))]) hx hb dX9_unite_131 hl (k := 7) rfl (by rw [ex_21]; rfl) (by decide) rfl (fun ls hl => ?_)
                refine lv_goto (tgt := 20) hx hb dX9_unite_134 (by decide) ?_
                exact ih20 x_21 x_18 F__15 n__16 x_20 _ _ hw (hP.part [0, 1] rfl) (hD.part [0, 1] (by decide) rfl) hS _ (lv_sub hl [3, 4, 5, 6, 2, 1, 7, 0] rfl)
              · have hw := hw.2 (b2i_1 c_19)
                refine lv_iconst (v := 1) hx hb dX9_unite_123 (by decide) ?_
                refine lv_goto (tgt := 128) hx hb dX9_unite_124 (by decide) ?_
                refine lv_iadd hx hb dX9_unite_128 ?_
                refine lv_topi (fun x_22 ex_22 => ?_)
                have hw := hw x_22 ex_22
                refine lv_istore (lv' := [(5, .int x_22), (4, .int x_18), (0, .ref (tp j)), (1, .ref a_book), (2, .ref (tp first)), (3, .ref (tp second)), (6, .int x_1), (7, .int v7_2), (10, .int (b2i sk0_12))]) hx hb dX9_unite_129 hl (by decide) rfl (fun ls hl => ?_)
                obtain ⟨x_23, ex_23⟩ : ∃ y : Int32, y = v7_2 + 1 := ⟨_, rfl⟩
                have hw := hw x_23 ex_23
                refine lv_iinc (v := x_23) (lv' := [(7, .int x_23), (5, .int x_22), (4, .int x_18), (0, .ref (tp j)), (1, .ref a_book), (2, .ref (tp first)), (3, .ref (tp second)), (6, .int x_1), (10, .int (b2i sk0_12))]) hx hb dX9_unite_131 hl (k := 7) rfl (by rw [ex_23]; rfl) (by decide) rfl (fun ls hl => ?_)
                refine lv_goto (tgt := 20) hx hb dX9_unite_134 (by decide) ?_
                exact ih20 x_23 x_18 F__15 n__16 x_22 _ _ hw (hP.part [0, 1] rfl) (hD.part [0, 1] (by decide) rfl) hS _ (lv_sub hl [3, 4, 5, 6, 2, 1, 7, 0] rfl)
            refine lv_if_eq (tgt := 112) hx hb dX9_unite_105 (by decide) (fun c_24 => ?_) (fun c_24 => ?_)
            · have hw := hw.1 (b2i_0 c_24)
              refine lv_iconst (v := 1) hx hb dX9_unite_112 (by decide) ?_
              exact JN113 true _ _ hw (hP.part [0, 1] rfl) (hD.part [0, 1] (by decide) rfl) hS _ (lv_sub hl [0, 1, 2, 3, 5, 6, 7, 8] rfl)
            · have hw := hw.2 (b2i_1 c_24)
              refine lv_iconst (v := 0) hx hb dX9_unite_108 (by decide) ?_
              refine lv_goto (tgt := 113) hx hb dX9_unite_109 (by decide) ?_
              exact JN113 false _ _ hw (hP.part [0, 1] rfl) (hD.part [0, 1] (by decide) rfl) hS _ (lv_sub hl [0, 1, 2, 3, 5, 6, 7, 8] rfl)
          refine lv_if_eq (tgt := 96) hx hb dX9_unite_88 (by decide) (fun c_25 => ?_) (fun c_25 => ?_)
          · have hw := hw.1 (b2i_0 c_25)
            refine lv_iload hx hb dX9_unite_96 (lv_at hl 9 rfl) ?_
            exact JN98 r_10 _ _ hw (hP.part [0, 1] rfl) (hD.part [0, 1] (by decide) rfl) hS _ (lv_sub hl [1, 2, 3, 4, 5, 6, 7, 8, 0] rfl)
          · have hw := hw.2 (b2i_1 c_25)
            refine lv_iload hx hb dX9_unite_91 (lv_at hl 10 rfl) ?_
            refine lv_goto (tgt := 98) hx hb dX9_unite_93 (by decide) ?_
            exact JN98 r_11 _ _ hw (hP.part [0, 1] rfl) (hD.part [0, 1] (by decide) rfl) hS _ (lv_sub hl [1, 2, 3, 4, 5, 6, 7, 8, 0] rfl)
        have JN78 : ∀  (H : Heap) (locs : List Loc), (wj_X9_unite_78 j v7_2 v4_3 F__4 n__5 v5_6 (wl_X9_unite_20 book_allKeys j first second x_1 (wx_X9_unite_20_137 Q) n20) r_10 r_11)  → va_P (dC, dI) vwCl ([(a_book, .inr (2, [.ref a_book_allKeys, .ref a_book_allMarks, .int book_count])), (a_book_allKeys, .inl (g 0, 200, .inl book_allKeys))] ++ TPl tp hd (g 0) F__4 n__5) H → va_D A ([(a_book, .inr (2, [.ref a_book_allKeys, .ref a_book_allMarks, .int book_count])), (a_book_allKeys, .inl (g 0, 200, .inl book_allKeys))] ++ TPl tp hd (g 0) F__4 n__5) → va_S A s.heap H locs → ∀ (ls : Array Slot), lv_has ls 11 [(0, .ref (tp j)), (1, .ref a_book), (2, .ref (tp first)), (3, .ref (tp second)), (4, .int v4_3), (5, .int v5_6), (6, .int x_1), (7, .int v7_2), (8, .int r_10), (9, .int r_11)] → W p l e (headSpec wqX9_unite ({ frames := 1, cells := 0, slots := 0, locals := 23 })).room s m ([.ref (tp j), .ref a_book, .ref (tp first), .ref (tp second)] : List Value).toArray below meth c H locs 0 0 QM (F0 m 78 ls []) := by
          intro  H locs hw hP hD hS ls hl
          refine lv_iconst (v := 1) hx hb dX9_unite_78 (by decide) ?_
          refine lv_goto (tgt := 83) hx hb dX9_unite_79 (by decide) ?_
          exact JN83 true _ _ hw (hP.part [0, 1] rfl) (hD.part [0, 1] (by decide) rfl) hS _ (lv_sub hl [0, 1, 2, 3, 4, 5, 6, 7, 8, 9] rfl)
        refine lv_icmp_ge (tgt := 78) hx hb dX9_unite_49 (by decide) (fun c_26 => ?_) (fun c_26 => ?_)
        · have hw := hw.1 c_26
          exact JN78  _ _ hw (hP.part [0, 1] rfl) (hD.part [0, 1] (by decide) rfl) hS _ (lv_sub hl [2, 3, 4, 5, 6, 7, 8, 9, 1, 0] rfl)
        · have hw := hw.2 c_26
          refine lv_iload hx hb dX9_unite_52 (lv_at hl 7 rfl) ?_
          refine lv_aload_n hx hb dX9_unite_54 rfl (lv_at hl 5 rfl) ?_
          refine va_get (D := (dC, dI)) (ci := 11) (v := .int (n__5 second)) (C := RX9) (T := TX9) (N := 2) hx hb hts hiX9 hown hK hP _ (TP_o hj_second) rfl 1 (by decide) hf15 (fun _ h9 => h9) rfl dX9_unite_55 ?_
          have JN82 : ∀  (H : Heap) (locs : List Loc), (wj_X9_unite_82 j v7_2 v4_3 F__4 n__5 v5_6 (wl_X9_unite_20 book_allKeys j first second x_1 (wx_X9_unite_20_137 Q) n20) r_10 r_11)  → va_P (dC, dI) vwCl ([(a_book, .inr (2, [.ref a_book_allKeys, .ref a_book_allMarks, .int book_count])), (a_book_allKeys, .inl (g 0, 200, .inl book_allKeys))] ++ TPl tp hd (g 0) F__4 n__5) H → va_D A ([(a_book, .inr (2, [.ref a_book_allKeys, .ref a_book_allMarks, .int book_count])), (a_book_allKeys, .inl (g 0, 200, .inl book_allKeys))] ++ TPl tp hd (g 0) F__4 n__5) → va_S A s.heap H locs → ∀ (ls : Array Slot), lv_has ls 11 [(0, .ref (tp j)), (1, .ref a_book), (2, .ref (tp first)), (3, .ref (tp second)), (4, .int v4_3), (5, .int v5_6), (6, .int x_1), (7, .int v7_2), (8, .int r_10), (9, .int r_11)] → W p l e (headSpec wqX9_unite ({ frames := 1, cells := 0, slots := 0, locals := 23 })).room s m ([.ref (tp j), .ref a_book, .ref (tp first), .ref (tp second)] : List Value).toArray below meth c H locs 0 0 QM (F0 m 82 ls []) := by
            intro  H locs hw hP hD hS ls hl
            refine lv_iconst (v := 0) hx hb dX9_unite_82 (by decide) ?_
            exact JN83 false _ _ hw (hP.part [0, 1] rfl) (hD.part [0, 1] (by decide) rfl) hS _ (lv_sub hl [0, 1, 2, 3, 4, 5, 6, 7, 8, 9] rfl)
          refine lv_icmp_ge (tgt := 82) hx hb dX9_unite_58 (by decide) (fun c_27 => ?_) (fun c_27 => ?_)
          · have hw := hw.1 c_27
            exact JN82  _ _ hw (hP.part [0, 1] rfl) (hD.part [0, 1] (by decide) rfl) hS _ (lv_sub hl [2, 3, 4, 5, 6, 7, 8, 9, 1, 0] rfl)
          · have hw := hw.2 c_27
            refine lv_aload_n hx hb dX9_unite_61 rfl (lv_at hl 3 rfl) ?_
            refine lv_iload hx hb dX9_unite_62 (lv_at hl 0 rfl) ?_
            refine lv_iconst (v := 0) hx hb dX9_unite_64 (by decide) ?_
            refine va_calli (va_runV (As := [.int r_11, .int 0]) (rest := []) ⟨hx, hb, hml, hown, hts⟩ (c_X0_rankOf l dC dI g (Wd := ([(a_book, .inr (2, [.ref a_book_allKeys, .ref a_book_allMarks, .int book_count])), (a_book_allKeys, .inl (g 0, 200, .inl book_allKeys))] ++ TPl tp hd (g 0) F__4 n__5)) (a_this := a_book) (a_allKeys := a_book_allKeys) (a_allMarks := a_book_allMarks) (count := book_count) (allKeys := book_allKeys) (record := r_11) (order := 0) (k_this := 0) (w_this := rfl) (k_allKeys := 1) (w_allKeys := rfl) (hw := hw) (sz := H_11.size)) (cwV 2 hts (gqV aw_4_221 aw_3_199 aw_3_200 aw_1_2 aw_3_201) rfl rfl rfl (by decide +kernel) ⟨Nat.le_of_ble_eq_true rfl, Nat.le_of_ble_eq_true rfl⟩) ⟨PG_blind, va_recv hK hP (ci := 2) (q0 := 0) rfl rfl, PG_call hK hG hS hP hD (A_all hD hA hS.1)⟩ rfl rfl hl.1 rfl (lv_room (Nat.le_of_ble_eq_true rfl)) dX9_unite_65 ⟨Nat.le_of_ble_eq_true rfl, Nat.le_of_ble_eq_true rfl⟩) hS (fun q _ h => (A_all hD hA hS.1) q h) (A_all hD hA hS.1) (fun r_28 u_28 t_28 H_28 L_28 ht_28 hvm_28 hw_28 hB_28 hz_28 hk_28 hS => ?_)
            rw [ht_28] at hB_28
            have hP : va_P (dC, dI) vwCl ([(a_book, .inr (2, [.ref a_book_allKeys, .ref a_book_allMarks, .int book_count])), (a_book_allKeys, .inl (g 0, 200, .inl book_allKeys))] ++ TPl tp hd (g 0) F__4 n__5) H_28 := hB_28
            have hw := hw_28
            refine lv_aload_n hx hb dX9_unite_68 rfl (lv_at hl 3 rfl) ?_
            refine lv_iload hx hb dX9_unite_69 (lv_at hl 1 rfl) ?_
            refine lv_iconst (v := 0) hx hb dX9_unite_71 (by decide) ?_
            refine va_calli (va_runV (As := [.int r_10, .int 0]) (rest := [.int r_28]) ⟨hx, hb, hml, hown, hts⟩ (c_X0_rankOf l dC dI g (Wd := ([(a_book, .inr (2, [.ref a_book_allKeys, .ref a_book_allMarks, .int book_count])), (a_book_allKeys, .inl (g 0, 200, .inl book_allKeys))] ++ TPl tp hd (g 0) F__4 n__5)) (a_this := a_book) (a_allKeys := a_book_allKeys) (a_allMarks := a_book_allMarks) (count := book_count) (allKeys := book_allKeys) (record := r_10) (order := 0) (k_this := 0) (w_this := rfl) (k_allKeys := 1) (w_allKeys := rfl) (hw := hw) (sz := H_28.size)) (cwV 2 hts (gqV aw_4_221 aw_3_199 aw_3_200 aw_1_2 aw_3_201) rfl rfl rfl (by decide +kernel) ⟨Nat.le_of_ble_eq_true rfl, Nat.le_of_ble_eq_true rfl⟩) ⟨PG_blind, va_recv hK hP (ci := 2) (q0 := 0) rfl rfl, PG_call hK hG hS hP hD (A_all hD hA hS.1)⟩ rfl rfl hl.1 rfl (lv_room (Nat.le_of_ble_eq_true rfl)) dX9_unite_72 ⟨Nat.le_of_ble_eq_true rfl, Nat.le_of_ble_eq_true rfl⟩) hS (fun q _ h => (A_all hD hA hS.1) q h) (A_all hD hA hS.1) (fun r_29 u_29 t_29 H_29 L_29 ht_29 hvm_29 hw_29 hB_29 hz_29 hk_29 hS => ?_)
            rw [ht_29] at hB_29
            have hP : va_P (dC, dI) vwCl ([(a_book, .inr (2, [.ref a_book_allKeys, .ref a_book_allMarks, .int book_count])), (a_book_allKeys, .inl (g 0, 200, .inl book_allKeys))] ++ TPl tp hd (g 0) F__4 n__5) H_29 := hB_29
            have hw := hw_29
            refine lv_icmp_ge (tgt := 82) hx hb dX9_unite_75 (by decide) (fun c_30 => ?_) (fun c_30 => ?_)
            · have hw := hw.1 c_30
              exact JN82  _ _ hw (hP.part [0, 1] rfl) (hD.part [0, 1] (by decide) rfl) hS _ (lv_sub hl [2, 3, 4, 5, 6, 7, 8, 9, 1, 0] rfl)
            · have hw := hw.2 c_30
              exact JN78  _ _ hw (hP.part [0, 1] rfl) (hD.part [0, 1] (by decide) rfl) hS _ (lv_sub hl [2, 3, 4, 5, 6, 7, 8, 9, 1, 0] rfl)
  obtain ⟨n20, hw⟩ := hw
  exact LOOP20 n20 0 0 F_ n_ 0 _ _ hw (hP.part [0, 1] rfl) (hD.part [0, 1] (by decide) rfl) hS _ (lv_sub hl [4, 5, 6, 7, 3, 2, 1, 0] rfl)
theorem dX9_pick_0 : decode cX9_pick 0 = .ok (.iconst 0, 1) := by decide +kernel
theorem dX9_pick_1 : decode cX9_pick 1 = .ok (.istore 5, 2) := by decide +kernel
theorem dX9_pick_45 : decode cX9_pick 45 = .ok (.return_, 1) := by decide +kernel
theorem dX9_pick_3 : decode cX9_pick 3 = .ok (.iload 5, 2) := by decide +kernel
theorem dX9_pick_5 : decode cX9_pick 5 = .ok (.aload_n 2, 1) := by decide +kernel
theorem dX9_pick_6 : decode cX9_pick 6 = .ok (.getfield 15, 3) := by decide +kernel
theorem dX9_pick_9 : decode cX9_pick 9 = .ok (.if_icmp .ge 36, 3) := by decide +kernel
theorem dX9_pick_12 : decode cX9_pick 12 = .ok (.aload_n 3, 1) := by decide +kernel
theorem dX9_pick_13 : decode cX9_pick 13 = .ok (.aload_n 1, 1) := by decide +kernel
theorem dX9_pick_14 : decode cX9_pick 14 = .ok (.aload_n 2, 1) := by decide +kernel
theorem dX9_pick_15 : decode cX9_pick 15 = .ok (.aload_n 1, 1) := by decide +kernel
theorem dX9_pick_16 : decode cX9_pick 16 = .ok (.iload 5, 2) := by decide +kernel
theorem dX9_pick_18 : decode cX9_pick 18 = .ok (.invokevirtual 37, 3) := by decide +kernel
theorem dX9_pick_21 : decode cX9_pick 21 = .ok (.invokevirtual 45, 3) := by decide +kernel
theorem dX9_pick_24 : decode cX9_pick 24 = .ok (.iload 4, 2) := by decide +kernel
theorem dX9_pick_26 : decode cX9_pick 26 = .ok (.if_icmp .ne 13, 3) := by decide +kernel
theorem dX9_pick_39 : decode cX9_pick 39 = .ok (.iinc 5 1, 3) := by decide +kernel
theorem dX9_pick_42 : decode cX9_pick 42 = .ok (.goto (-39), 3) := by decide +kernel
theorem dX9_pick_29 : decode cX9_pick 29 = .ok (.aload_n 0, 1) := by decide +kernel
theorem dX9_pick_30 : decode cX9_pick 30 = .ok (.aload_n 2, 1) := by decide +kernel
theorem dX9_pick_31 : decode cX9_pick 31 = .ok (.iload 5, 2) := by decide +kernel
theorem dX9_pick_33 : decode cX9_pick 33 = .ok (.invokevirtual 19, 3) := by decide +kernel
theorem dX9_pick_36 : decode cX9_pick 36 = .ok (.invokevirtual 41, 3) := by decide +kernel
abbrev Wa_X9_pick (g : Nat → ClassId) (tp : Nat → Nat) (hd : Nat → Nat) (a_book : Nat) (a_book_allKeys : Nat) (a_book_allMarks : Nat) (book_count : Int32) (book_allKeys : Nat → Int32) (F_ : Nat → Nat → Int32) (n_ : Nat → Int32) : va_W := ([(a_book, .inr (2, [.ref a_book_allKeys, .ref a_book_allMarks, .int book_count])), (a_book_allKeys, .inl (g 0, 200, .inl book_allKeys))] ++ TPl tp hd (g 0) F_ n_)
abbrev Wb_X9_pick (g : Nat → ClassId) (tp : Nat → Nat) (hd : Nat → Nat) (a_book : Nat) (a_book_allKeys : Nat) (a_book_allMarks : Nat) (book_count : Int32) (book_allKeys : Nat → Int32) (u : (Nat → Nat → Int32) × (Nat → Int32) × Unit) : va_W := ([(a_book, .inr (2, [.ref a_book_allKeys, .ref a_book_allMarks, .int book_count])), (a_book_allKeys, .inl (g 0, 200, .inl book_allKeys))] ++ TPl tp hd (g 0) u.1 u.2.1)
set_option maxHeartbeats 8000000 in
set_option maxRecDepth 100000 in
theorem c_X9_pick (l : Launch) (dC : Nat → ClassId) (dI : Nat → Nat → Nat) (g : Nat → ClassId) (tp hd : Nat → Nat) (a_book : Nat) (a_book_allKeys : Nat) (a_book_allMarks : Nat) (book_count : Int32) (book_allKeys : Nat → Int32) (F_ : Nat → Nat → Int32) (n_ : Nat → Int32) (j : Nat) (first : Nat) (second : Nat) (isCommon : Bool) (hj_j : j < 18) (hj_first : first < 18) (hj_second : second < 18) (Q : (Nat → Nat → Int32) → (Nat → Int32) → Prop) (hw : wp_X9_pick book_allKeys j first second isCommon F_ n_ Q) (sz : Nat) : Met l yX9_pick wqX9_pick ({ frames := 3, cells := 0, slots := 0, locals := 66 }) (va_Pc [.ref (tp j), .ref a_book, .ref (tp first), .ref (tp second), .int (b2i isCommon)] (PG (dC, dI) g (Wa_X9_pick g tp hd a_book a_book_allKeys a_book_allMarks book_count book_allKeys F_ n_) sz)) (va_Qv (fun (u : (Nat → Nat → Int32) × (Nat → Int32) × Unit) => Q u.1 u.2.1) (fun (u : (Nat → Nat → Int32) × (Nat → Int32) × Unit) t9 => va_P (dC, dI) vwCl (Wb_X9_pick g tp hd a_book a_book_allKeys a_book_allMarks book_count book_allKeys u) t9.heap ∧ va_D (va_A (Wa_X9_pick g tp hd a_book a_book_allKeys a_book_allMarks book_count book_allKeys F_ n_) sz) (Wb_X9_pick g tp hd a_book a_book_allKeys a_book_allMarks book_count book_allKeys u)) (va_A (Wa_X9_pick g tp hd a_book a_book_allKeys a_book_allMarks book_count book_allKeys F_ n_) sz)) 0 0 (va_A (Wa_X9_pick g tp hd a_book a_book_allKeys a_book_allMarks book_count book_allKeys F_ n_) sz) := by
  refine Met.ofW (cc := cX9_pick) (maxL := 6) (ret := none) (by decide) rfl ?_
  intro p e s m args below meth c s₁ B hml hv
  obtain ⟨rfl, hsz, hP, hK, hD0, hG⟩ := hv
  have hx := B.exec
  have hb := B.bytes
  have hr := B.returns
  have hts := atoms_spec (ws := wqX9_pick) B.pre
  have hown : s.vm.findClass RX9 = some m.cls := findClass_of_methodNamed B.named
  have hlocks := B.notSynchronized
  subst hsz
  have hD := hD0.self (sz := s.heap.size)
  generalize hAe : va_A (Wa_X9_pick g tp hd a_book a_book_allKeys a_book_allMarks book_count book_allKeys F_ n_) s.heap.size = A at hD hG ⊢
  have hA : ∀ q : Nat, s.heap.size ≤ q → A q := fun q h => by rw [← hAe]; exact Or.inr h
  have hS : va_S A s.heap s.heap [] := va_S.rf
  have hl := lv_entry ([.ref (tp j), .ref a_book, .ref (tp first), .ref (tp second), .int (b2i isCommon)]) (n := 6) (Nat.le_of_ble_eq_true rfl)
  rw [lg_entry_eq]
  generalize (lg_sl ([.ref (tp j), .ref a_book, .ref (tp first), .ref (tp second), .int (b2i isCommon)]) ++ List.replicate (6 - (lg_sl ([.ref (tp j), .ref a_book, .ref (tp first), .ref (tp second), .int (b2i isCommon)])).length) Slot.unset).toArray = ls at hl ⊢
  have hl : lv_has ls 6 [(0, .ref (tp j)), (1, .ref a_book), (2, .ref (tp first)), (3, .ref (tp second)), (4, .int (b2i isCommon))] := hl
  unfold wp_X9_pick at hw
  have hf15 := hts (Cond.fieldLink RX9 15 "RunmergeOffice$Tape" "size" "I") (aw_l aw_1_66)
  have hiX9 : ∀ w ∈ u_ws RX9 TX9 2, w ∈ wqX9_pick := fun w h => aw_l (aw_wsX90 w h)
  refine lv_iconst (v := 0) hx hb dX9_pick_0 (by decide) ?_
  refine lv_istore (lv' := [(5, .int 0), (0, .ref (tp j)), (1, .ref a_book), (2, .ref (tp first)), (3, .ref (tp second)), (4, .int (b2i isCommon))]) hx hb dX9_pick_1 hl (by decide) rfl (fun ls hl => ?_)
  refine W_abs (fun QM hQM => ?_)
  have EX3_45 : ∀ (F__4 : Nat → Nat → Int32) (n__5 : Nat → Int32) (H : Heap) (locs : List Loc), (wx_X9_pick_3_45 Q) F__4 n__5 → va_P (dC, dI) vwCl ([(a_book, .inr (2, [.ref a_book_allKeys, .ref a_book_allMarks, .int book_count])), (a_book_allKeys, .inl (g 0, 200, .inl book_allKeys))] ++ TPl tp hd (g 0) F__4 n__5) H → va_D A ([(a_book, .inr (2, [.ref a_book_allKeys, .ref a_book_allMarks, .int book_count])), (a_book_allKeys, .inl (g 0, 200, .inl book_allKeys))] ++ TPl tp hd (g 0) F__4 n__5) → va_S A s.heap H locs → ∀ (ls : Array Slot), lv_has ls 6 [] → W p l e (headSpec wqX9_pick ({ frames := 3, cells := 0, slots := 0, locals := 66 })).room s m ([.ref (tp j), .ref a_book, .ref (tp first), .ref (tp second), .int (b2i isCommon)] : List Value).toArray below meth c H locs 0 0 QM (F0 m 45 ls []) := by
    intro F__4 n__5 H locs hw hP hD hS ls hl
    subst hQM
    have hP9 := va_P.part (cx := [(a_book, .inr (2, [.ref a_book_allKeys, .ref a_book_allMarks, .int book_count])), (a_book_allKeys, .inl (g 0, 200, .inl book_allKeys))]) hP [0, 1] rfl
    have hD9 := va_D.part (cx := [(a_book, .inr (2, [.ref a_book_allKeys, .ref a_book_allMarks, .int book_count])), (a_book_allKeys, .inl (g 0, 200, .inl book_allKeys))]) hD [0, 1] (by decide) rfl
    exact W.vret hx hb hr (fun t ht hW => ⟨⟨(F__4, n__5, ()), rfl, hw, ⟨P_at ht hP9, hD9⟩⟩, hS.F ht⟩) hS.2.2 dX9_pick_45
  have LOOP3 : ∀ (n3 : Nat) (v5_1 : Int32) (F__2 : Nat → Nat → Int32) (n__3 : Nat → Int32) (H : Heap) (locs : List Loc), wl_X9_pick_3 book_allKeys j first second isCommon (wx_X9_pick_3_45 Q) n3 v5_1 F__2 n__3 → va_P (dC, dI) vwCl ([(a_book, .inr (2, [.ref a_book_allKeys, .ref a_book_allMarks, .int book_count])), (a_book_allKeys, .inl (g 0, 200, .inl book_allKeys))] ++ TPl tp hd (g 0) F__2 n__3) H → va_D A ([(a_book, .inr (2, [.ref a_book_allKeys, .ref a_book_allMarks, .int book_count])), (a_book_allKeys, .inl (g 0, 200, .inl book_allKeys))] ++ TPl tp hd (g 0) F__2 n__3) → va_S A s.heap H locs → ∀ (ls : Array Slot), lv_has ls 6 [(0, .ref (tp j)), (1, .ref a_book), (2, .ref (tp first)), (3, .ref (tp second)), (4, .int (b2i isCommon)), (5, .int v5_1)] → W p l e (headSpec wqX9_pick ({ frames := 3, cells := 0, slots := 0, locals := 66 })).room s m ([.ref (tp j), .ref a_book, .ref (tp first), .ref (tp second), .int (b2i isCommon)] : List Value).toArray below meth c H locs 0 0 QM (F0 m 3 ls []) := by
    intro n3
    induction n3 with
    | zero =>
      intro v5_1 F__2 n__3 H locs hw hP hD hS ls hl
      exact False.elim hw
    | succ n3 ih3 =>
      intro v5_1 F__2 n__3 H locs hw hP hD hS ls hl
      rw [wl_X9_pick_3_s] at hw
      refine lv_iload hx hb dX9_pick_3 (lv_at hl 5 rfl) ?_
      refine lv_aload_n hx hb dX9_pick_5 rfl (lv_at hl 2 rfl) ?_
      refine va_get (D := (dC, dI)) (ci := 11) (v := .int (n__3 first)) (C := RX9) (T := TX9) (N := 2) hx hb hts hiX9 hown hK hP _ (TP_o hj_first) rfl 1 (by decide) hf15 (fun _ h9 => h9) rfl dX9_pick_6 ?_
      refine lv_icmp_ge (tgt := 45) hx hb dX9_pick_9 (by decide) (fun c_6 => ?_) (fun c_6 => ?_)
      · have hw := hw.1 c_6
        exact EX3_45 F__2 n__3 _ _ hw (hP.part [0, 1] rfl) (hD.part [0, 1] (by decide) rfl) hS _ (lv_sub hl [] rfl)
      · have hw := hw.2 c_6
        refine lv_aload_n hx hb dX9_pick_12 rfl (lv_at hl 3 rfl) ?_
        refine lv_aload_n hx hb dX9_pick_13 rfl (lv_at hl 1 rfl) ?_
        refine lv_aload_n hx hb dX9_pick_14 rfl (lv_at hl 2 rfl) ?_
        refine lv_aload_n hx hb dX9_pick_15 rfl (lv_at hl 1 rfl) ?_
        refine lv_iload hx hb dX9_pick_16 (lv_at hl 5 rfl) ?_
        refine va_calli (va_runV (As := [.ref a_book, .int v5_1]) (rest := [.ref a_book, .ref (tp second)]) ⟨hx, hb, hml, hown, hts⟩ (c_X9_keyAt l dC dI g tp hd (Wd := ([(a_book, .inr (2, [.ref a_book_allKeys, .ref a_book_allMarks, .int book_count])), (a_book_allKeys, .inl (g 0, 200, .inl book_allKeys))] ++ TPl tp hd (g 0) F__2 n__3)) (a_book := a_book) (a_book_allKeys := a_book_allKeys) (a_book_allMarks := a_book_allMarks) (book_count := book_count) (book_allKeys := book_allKeys) (F_ := F__2) (n_ := n__3) (j := first) (place := v5_1) (hj_j := hj_first) (k_book := 0) (w_book := rfl) (k_book_allKeys := 1) (w_book_allKeys := rfl) (kT := _) (hT := TP_at) (hw := hw) (sz := H.size)) (cwV 2 hts (gqV aw_4_231 aw_4_232 aw_4_233 aw_1_3 aw_4_234) rfl rfl rfl (by decide +kernel) ⟨Nat.le_of_ble_eq_true rfl, Nat.le_of_ble_eq_true rfl⟩) ⟨PG_blind, va_recv hK hP (ci := 11) (q0 := _) rfl (TP_o hj_first), PG_call hK hG hS hP hD (A_all hD hA hS.1)⟩ rfl rfl hl.1 rfl (lv_room (Nat.le_of_ble_eq_true rfl)) dX9_pick_18 ⟨Nat.le_of_ble_eq_true rfl, Nat.le_of_ble_eq_true rfl⟩) hS (fun q _ h => (A_all hD hA hS.1) q h) (A_all hD hA hS.1) (fun r_7 u_7 t_7 H_7 L_7 ht_7 hvm_7 hw_7 hB_7 hz_7 hk_7 hS => ?_)
        rw [ht_7] at hB_7
        have hP : va_P (dC, dI) vwCl ([(a_book, .inr (2, [.ref a_book_allKeys, .ref a_book_allMarks, .int book_count])), (a_book_allKeys, .inl (g 0, 200, .inl book_allKeys))] ++ TPl tp hd (g 0) F__2 n__3) H_7 := hB_7
        have hw := hw_7
        refine va_calli (va_runV (As := [.ref a_book, .int r_7]) (rest := []) ⟨hx, hb, hml, hown, hts⟩ (c_X9_holdsKey l dC dI g tp hd (Wd := ([(a_book, .inr (2, [.ref a_book_allKeys, .ref a_book_allMarks, .int book_count])), (a_book_allKeys, .inl (g 0, 200, .inl book_allKeys))] ++ TPl tp hd (g 0) F__2 n__3)) (a_book := a_book) (a_book_allKeys := a_book_allKeys) (a_book_allMarks := a_book_allMarks) (book_count := book_count) (book_allKeys := book_allKeys) (F_ := F__2) (n_ := n__3) (j := second) (key := r_7) (hj_j := hj_second) (k_book := 0) (w_book := rfl) (k_book_allKeys := 1) (w_book_allKeys := rfl) (kT := _) (hT := TP_at) (hw := hw) (sz := H_7.size)) (cwV 2 hts (gqV aw_4_236 aw_4_238 aw_0_29 aw_1_3 aw_4_239) rfl rfl rfl (by decide +kernel) ⟨Nat.le_of_ble_eq_true rfl, Nat.le_of_ble_eq_true rfl⟩) ⟨PG_blind, va_recv hK hP (ci := 11) (q0 := _) rfl (TP_o hj_second), PG_call hK hG hS hP hD (A_all hD hA hS.1)⟩ rfl rfl hl.1 rfl (lv_room (Nat.le_of_ble_eq_true rfl)) dX9_pick_21 ⟨Nat.le_of_ble_eq_true rfl, Nat.le_of_ble_eq_true rfl⟩) hS (fun q _ h => (A_all hD hA hS.1) q h) (A_all hD hA hS.1) (fun r_8 u_8 t_8 H_8 L_8 ht_8 hvm_8 hw_8 hB_8 hz_8 hk_8 hS => ?_)
        rw [ht_8] at hB_8
        have hP : va_P (dC, dI) vwCl ([(a_book, .inr (2, [.ref a_book_allKeys, .ref a_book_allMarks, .int book_count])), (a_book_allKeys, .inl (g 0, 200, .inl book_allKeys))] ++ TPl tp hd (g 0) F__2 n__3) H_8 := hB_8
        obtain ⟨b_8, rfl, hw⟩ := hw_8
        refine lv_iload hx hb dX9_pick_24 (lv_at hl 4 rfl) ?_
        refine lv_icmp_ne (tgt := 39) hx hb dX9_pick_26 (by decide) (fun c_9 => ?_) (fun c_9 => ?_)
        · have hw := hw.2 c_9
          obtain ⟨x_10, ex_10⟩ : ∃ y : Int32, y = v5_1 + 1 := ⟨_, rfl⟩
          have hw := hw x_10 ex_10
          refine lv_iinc (v := x_10) (lv' := [(5, .int x_10), (0, .ref (tp j)), (1, .ref a_book), (2, .ref (tp first)), (3, .ref (tp second)), (4, .int (b2i isCommon))]) hx hb dX9_pick_39 hl (k := 5) rfl (by rw [ex_10]; rfl) (by decide) rfl (fun ls hl => ?_)
          refine lv_goto (tgt := 3) hx hb dX9_pick_42 (by decide) ?_
          exact ih3 x_10 F__2 n__3 _ _ hw (hP.part [0, 1] rfl) (hD.part [0, 1] (by decide) rfl) hS _ (lv_sub hl [1, 2, 3, 4, 5, 0] rfl)
        · have hw := hw.1 c_9
          refine lv_aload_n hx hb dX9_pick_29 rfl (lv_at hl 0 rfl) ?_
          refine lv_aload_n hx hb dX9_pick_30 rfl (lv_at hl 2 rfl) ?_
          refine lv_iload hx hb dX9_pick_31 (lv_at hl 5 rfl) ?_
          refine va_calli (va_runV (As := [.int v5_1]) (rest := [.ref (tp j)]) ⟨hx, hb, hml, hown, hts⟩ (c_X9_recordAt l dC dI g tp hd (Wd := ([(a_book, .inr (2, [.ref a_book_allKeys, .ref a_book_allMarks, .int book_count])), (a_book_allKeys, .inl (g 0, 200, .inl book_allKeys))] ++ TPl tp hd (g 0) F__2 n__3)) (F_ := F__2) (n_ := n__3) (j := first) (place := v5_1) (hj_j := hj_first) (kT := _) (hT := TP_at) (hw := hw) (sz := H_8.size)) (cwV 1 hts (gqV aw_4_220 aw_3_171 aw_3_172 aw_1_3 aw_3_173) rfl rfl rfl (by decide +kernel) ⟨Nat.le_of_ble_eq_true rfl, Nat.le_of_ble_eq_true rfl⟩) ⟨PG_blind, va_recv hK hP (ci := 11) (q0 := _) rfl (TP_o hj_first), PG_call hK hG hS hP hD (A_all hD hA hS.1)⟩ rfl rfl hl.1 rfl (lv_room (Nat.le_of_ble_eq_true rfl)) dX9_pick_33 ⟨Nat.le_of_ble_eq_true rfl, Nat.le_of_ble_eq_true rfl⟩) hS (fun q _ h => (A_all hD hA hS.1) q h) (A_all hD hA hS.1) (fun r_11 u_11 t_11 H_11 L_11 ht_11 hvm_11 hw_11 hB_11 hz_11 hk_11 hS => ?_)
          rw [ht_11] at hB_11
          have hP : va_P (dC, dI) vwCl ([(a_book, .inr (2, [.ref a_book_allKeys, .ref a_book_allMarks, .int book_count])), (a_book_allKeys, .inl (g 0, 200, .inl book_allKeys))] ++ TPl tp hd (g 0) F__2 n__3) H_11 := hB_11
          have hw := hw_11
          have hPc := va_P.part (cx := []) hP [] rfl
          have hDc := va_D.part (cx := []) hD [] (by decide) rfl
          have hFc := va_freeP (cx := []) hD hS hA [] rfl
          refine va_callv (va_runV (As := [.int r_11]) (rest := []) ⟨hx, hb, hml, hown, hts⟩ (c_X9_add l dC dI g tp hd (F_ := F__2) (n_ := n__3) (j := j) (record := r_11) (hj_j := hj_j) (hw := hw) (sz := H_11.size)) (cwV 1 hts (gqV aw_4_226 aw_3_115 aw_3_116 aw_1_3 aw_3_117) rfl rfl rfl (by decide +kernel) ⟨Nat.le_of_ble_eq_true rfl, Nat.le_of_ble_eq_true rfl⟩) ⟨PG_blind, va_recv hK hP (ci := 11) (q0 := _) rfl (TP_o hj_j), PG_call hK hG hS hPc hDc hFc⟩ rfl rfl hl.1 rfl (lv_room (Nat.le_of_ble_eq_true rfl)) dX9_pick_36 ⟨Nat.le_of_ble_eq_true rfl, Nat.le_of_ble_eq_true rfl⟩) hS (fun q _ h => hFc q h) hFc (fun u_12 t_12 H_12 L_12 ht_12 hvm_12 hw_12 hB_12 hz_12 hk_12 hS => ?_)
          obtain ⟨F__13, n__14, u_12⟩ := u_12
          obtain ⟨hP1, hD1⟩ := hB_12
          rw [ht_12] at hP1
          obtain ⟨hP, hD⟩ := va_joinP (wr := [(a_book, .inr (2, [.ref a_book_allKeys, .ref a_book_allMarks, .int book_count])), (a_book_allKeys, .inl (g 0, 200, .inl book_allKeys))]) (rx := []) (pl1 := TPl tp hd (g 0) F__13 n__14) hP hD [] [0, 1] rfl rfl (by decide) (by decide) hk_12 hFc hP1 hD1
          have hP : va_P (dC, dI) vwCl ([(a_book, .inr (2, [.ref a_book_allKeys, .ref a_book_allMarks, .int book_count])), (a_book_allKeys, .inl (g 0, 200, .inl book_allKeys))] ++ TPl tp hd (g 0) F__13 n__14) H_12 := hP
          have hD : va_D A ([(a_book, .inr (2, [.ref a_book_allKeys, .ref a_book_allMarks, .int book_count])), (a_book_allKeys, .inl (g 0, 200, .inl book_allKeys))] ++ TPl tp hd (g 0) F__13 n__14) := hD
          have hw := hw_12
          obtain ⟨x_15, ex_15⟩ : ∃ y : Int32, y = v5_1 + 1 := ⟨_, rfl⟩
          have hw := hw x_15 ex_15
          refine lv_iinc (v := x_15) (lv' := [(5, .int x_15), (0, .ref (tp j)), (1, .ref a_book), (2, .ref (tp first)), (3, .ref (tp second)), (4, .int (b2i isCommon))]) hx hb dX9_pick_39 hl (k := 5) rfl (by rw [ex_15]; rfl) (by decide) rfl (fun ls hl => ?_)
          refine lv_goto (tgt := 3) hx hb dX9_pick_42 (by decide) ?_
          exact ih3 x_15 F__13 n__14 _ _ hw (hP.part [0, 1] rfl) (hD.part [0, 1] (by decide) rfl) hS _ (lv_sub hl [1, 2, 3, 4, 5, 0] rfl)
  obtain ⟨n3, hw⟩ := hw
  exact LOOP3 n3 0 F_ n_ _ _ hw (hP.part [0, 1] rfl) (hD.part [0, 1] (by decide) rfl) hS _ (lv_sub hl [1, 2, 3, 4, 5, 0] rfl)
theorem dX8_takeOver_0 : decode cX8_takeOver 0 = .ok (.aload_n 0, 1) := by decide +kernel
theorem dX8_takeOver_1 : decode cX8_takeOver 1 = .ok (.aload_n 1, 1) := by decide +kernel
theorem dX8_takeOver_2 : decode cX8_takeOver 2 = .ok (.getfield 9, 3) := by decide +kernel
theorem dX8_takeOver_5 : decode cX8_takeOver 5 = .ok (.putfield 9, 3) := by decide +kernel
theorem dX8_takeOver_8 : decode cX8_takeOver 8 = .ok (.aload_n 0, 1) := by decide +kernel
theorem dX8_takeOver_9 : decode cX8_takeOver 9 = .ok (.aload_n 1, 1) := by decide +kernel
theorem dX8_takeOver_10 : decode cX8_takeOver 10 = .ok (.getfield 15, 3) := by decide +kernel
theorem dX8_takeOver_13 : decode cX8_takeOver 13 = .ok (.putfield 15, 3) := by decide +kernel
theorem dX8_takeOver_16 : decode cX8_takeOver 16 = .ok (.aload_n 0, 1) := by decide +kernel
theorem dX8_takeOver_17 : decode cX8_takeOver 17 = .ok (.aload_n 1, 1) := by decide +kernel
theorem dX8_takeOver_18 : decode cX8_takeOver 18 = .ok (.getfield 18, 3) := by decide +kernel
theorem dX8_takeOver_21 : decode cX8_takeOver 21 = .ok (.putfield 18, 3) := by decide +kernel
theorem dX8_takeOver_24 : decode cX8_takeOver 24 = .ok (.aload_n 0, 1) := by decide +kernel
theorem dX8_takeOver_25 : decode cX8_takeOver 25 = .ok (.aload_n 1, 1) := by decide +kernel
theorem dX8_takeOver_26 : decode cX8_takeOver 26 = .ok (.getfield 21, 3) := by decide +kernel
theorem dX8_takeOver_29 : decode cX8_takeOver 29 = .ok (.putfield 21, 3) := by decide +kernel
theorem dX8_takeOver_32 : decode cX8_takeOver 32 = .ok (.aload_n 0, 1) := by decide +kernel
theorem dX8_takeOver_33 : decode cX8_takeOver 33 = .ok (.aload_n 1, 1) := by decide +kernel
theorem dX8_takeOver_34 : decode cX8_takeOver 34 = .ok (.getfield 24, 3) := by decide +kernel
theorem dX8_takeOver_37 : decode cX8_takeOver 37 = .ok (.putfield 24, 3) := by decide +kernel
theorem dX8_takeOver_40 : decode cX8_takeOver 40 = .ok (.return_, 1) := by decide +kernel
abbrev Wa_X8_takeOver (a_this : Nat) (a_other : Nat) (order : Int32) (runWay : Int32) (memory : Int32) (mergeWay : Int32) (ways : Int32) (other_order : Int32) (other_runWay : Int32) (other_memory : Int32) (other_mergeWay : Int32) (other_ways : Int32) : va_W := [(a_this, .inr (10, [.int order, .int runWay, .int memory, .int mergeWay, .int ways])), (a_other, .inr (10, [.int other_order, .int other_runWay, .int other_memory, .int other_mergeWay, .int other_ways]))]
abbrev Wb_X8_takeOver (a_this : Nat) (a_other : Nat) (other_order : Int32) (other_runWay : Int32) (other_memory : Int32) (other_mergeWay : Int32) (other_ways : Int32) (u : Int32 × Int32 × Int32 × Int32 × Int32 × Unit) : va_W := [(a_this, .inr (10, [.int u.1, .int u.2.1, .int u.2.2.1, .int u.2.2.2.1, .int u.2.2.2.2.1])), (a_other, .inr (10, [.int other_order, .int other_runWay, .int other_memory, .int other_mergeWay, .int other_ways]))]
set_option maxHeartbeats 8000000 in
set_option maxRecDepth 100000 in
theorem c_X8_takeOver (l : Launch) (dC : Nat → ClassId) (dI : Nat → Nat → Nat) (g : Nat → ClassId) (a_this : Nat) (a_other : Nat) (order : Int32) (runWay : Int32) (memory : Int32) (mergeWay : Int32) (ways : Int32) (other_order : Int32) (other_runWay : Int32) (other_memory : Int32) (other_mergeWay : Int32) (other_ways : Int32) (Q : Int32 → Int32 → Int32 → Int32 → Int32 → Prop) (hw : wp_X8_takeOver other_order other_runWay other_memory other_mergeWay other_ways Q) (sz : Nat) : Met l yX8_takeOver wqX8_takeOver ({ frames := 0, cells := 0, slots := 0, locals := 0 }) (va_Pc [.ref a_this, .ref a_other] (PG (dC, dI) g (Wa_X8_takeOver a_this a_other order runWay memory mergeWay ways other_order other_runWay other_memory other_mergeWay other_ways) sz)) (va_Qv (fun (u : Int32 × Int32 × Int32 × Int32 × Int32 × Unit) => Q u.1 u.2.1 u.2.2.1 u.2.2.2.1 u.2.2.2.2.1) (fun (u : Int32 × Int32 × Int32 × Int32 × Int32 × Unit) t9 => va_P (dC, dI) vwCl (Wb_X8_takeOver a_this a_other other_order other_runWay other_memory other_mergeWay other_ways u) t9.heap ∧ va_D (va_A (Wa_X8_takeOver a_this a_other order runWay memory mergeWay ways other_order other_runWay other_memory other_mergeWay other_ways) sz) (Wb_X8_takeOver a_this a_other other_order other_runWay other_memory other_mergeWay other_ways u)) (va_A (Wa_X8_takeOver a_this a_other order runWay memory mergeWay ways other_order other_runWay other_memory other_mergeWay other_ways) sz)) 0 0 (va_A (Wa_X8_takeOver a_this a_other order runWay memory mergeWay ways other_order other_runWay other_memory other_mergeWay other_ways) sz) := by
  refine Met.ofW (cc := cX8_takeOver) (maxL := 2) (ret := none) (by decide) rfl ?_
  intro p e s m args below meth c s₁ B hml hv
  obtain ⟨rfl, hsz, hP, hK, hD0, hG⟩ := hv
  have hx := B.exec
  have hb := B.bytes
  have hr := B.returns
  have hts := atoms_spec (ws := wqX8_takeOver) B.pre
  have hown : s.vm.findClass RX8 = some m.cls := findClass_of_methodNamed B.named
  have hlocks := B.notSynchronized
  subst hsz
  have hD := hD0.self (sz := s.heap.size)
  generalize hAe : va_A (Wa_X8_takeOver a_this a_other order runWay memory mergeWay ways other_order other_runWay other_memory other_mergeWay other_ways) s.heap.size = A at hD hG ⊢
  have hA : ∀ q : Nat, s.heap.size ≤ q → A q := fun q h => by rw [← hAe]; exact Or.inr h
  have hS : va_S A s.heap s.heap [] := va_S.rf
  have hl := lv_entry ([.ref a_this, .ref a_other]) (n := 2) (Nat.le_of_ble_eq_true rfl)
  rw [lg_entry_eq]
  generalize (lg_sl ([.ref a_this, .ref a_other]) ++ List.replicate (2 - (lg_sl ([.ref a_this, .ref a_other])).length) Slot.unset).toArray = ls at hl ⊢
  have hl : lv_has ls 2 [(0, .ref a_this), (1, .ref a_other)] := hl
  unfold wp_X8_takeOver at hw
  have hf9 := hts (Cond.fieldLink RX8 9 "RunmergeOffice$Settings" "order" "I") (aw_l aw_1_82)
  have hiX8 : ∀ w ∈ u_ws RX8 TX8 5, w ∈ wqX8_takeOver := fun w h => aw_l (aw_wsX80 w h)
  have hf15 := hts (Cond.fieldLink RX8 15 "RunmergeOffice$Settings" "runWay" "I") (aw_l aw_1_87)
  have hf18 := hts (Cond.fieldLink RX8 18 "RunmergeOffice$Settings" "memory" "I") (aw_l aw_1_92)
  have hf21 := hts (Cond.fieldLink RX8 21 "RunmergeOffice$Settings" "mergeWay" "I") (aw_l aw_1_97)
  have hf24 := hts (Cond.fieldLink RX8 24 "RunmergeOffice$Settings" "ways" "I") (aw_l aw_1_102)
  refine lv_aload_n hx hb dX8_takeOver_0 rfl (lv_at hl 0 rfl) ?_
  refine lv_aload_n hx hb dX8_takeOver_1 rfl (lv_at hl 1 rfl) ?_
  refine va_get (D := (dC, dI)) (ci := 10) (v := .int other_order) (C := RX8) (T := TX8) (N := 5) hx hb hts hiX8 hown hK hP 1 rfl rfl 0 (by decide) hf9 (fun _ h9 => h9) rfl dX8_takeOver_2 ?_
  refine va_put (D := (dC, dI)) (ci := 10) (v := .int other_order) (ty := .int) (C := RX8) (T := TX8) (N := 5) hx hb hts hiX8 tyX8 tyX8_ok nmX8 hown hK hP hD hS 0 rfl rfl 0 (by decide) hf9 (fun _ h9 => h9) rfl (by decide +kernel) rfl rfl (Nat.le_of_ble_eq_true rfl) dX8_takeOver_5 (fun H_1 L_2 hP hD hS => ?_)
  have hP : va_P (dC, dI) vwCl [(a_this, .inr (10, [.int other_order, .int runWay, .int memory, .int mergeWay, .int ways])), (a_other, .inr (10, [.int other_order, .int other_runWay, .int other_memory, .int other_mergeWay, .int other_ways]))] H_1 := hP
  have hD : va_D A [(a_this, .inr (10, [.int other_order, .int runWay, .int memory, .int mergeWay, .int ways])), (a_other, .inr (10, [.int other_order, .int other_runWay, .int other_memory, .int other_mergeWay, .int other_ways]))] := hD
  refine lv_aload_n hx hb dX8_takeOver_8 rfl (lv_at hl 0 rfl) ?_
  refine lv_aload_n hx hb dX8_takeOver_9 rfl (lv_at hl 1 rfl) ?_
  refine va_get (D := (dC, dI)) (ci := 10) (v := .int other_runWay) (C := RX8) (T := TX8) (N := 5) hx hb hts hiX8 hown hK hP 1 rfl rfl 1 (by decide) hf15 (fun _ h9 => h9) rfl dX8_takeOver_10 ?_
  refine va_put (D := (dC, dI)) (ci := 10) (v := .int other_runWay) (ty := .int) (C := RX8) (T := TX8) (N := 5) hx hb hts hiX8 tyX8 tyX8_ok nmX8 hown hK hP hD hS 0 rfl rfl 1 (by decide) hf15 (fun _ h9 => h9) rfl (by decide +kernel) rfl rfl (Nat.le_of_ble_eq_true rfl) dX8_takeOver_13 (fun H_3 L_4 hP hD hS => ?_)
  have hP : va_P (dC, dI) vwCl [(a_this, .inr (10, [.int other_order, .int other_runWay, .int memory, .int mergeWay, .int ways])), (a_other, .inr (10, [.int other_order, .int other_runWay, .int other_memory, .int other_mergeWay, .int other_ways]))] H_3 := hP
  have hD : va_D A [(a_this, .inr (10, [.int other_order, .int other_runWay, .int memory, .int mergeWay, .int ways])), (a_other, .inr (10, [.int other_order, .int other_runWay, .int other_memory, .int other_mergeWay, .int other_ways]))] := hD
  refine lv_aload_n hx hb dX8_takeOver_16 rfl (lv_at hl 0 rfl) ?_
  refine lv_aload_n hx hb dX8_takeOver_17 rfl (lv_at hl 1 rfl) ?_
  refine va_get (D := (dC, dI)) (ci := 10) (v := .int other_memory) (C := RX8) (T := TX8) (N := 5) hx hb hts hiX8 hown hK hP 1 rfl rfl 2 (by decide) hf18 (fun _ h9 => h9) rfl dX8_takeOver_18 ?_
  refine va_put (D := (dC, dI)) (ci := 10) (v := .int other_memory) (ty := .int) (C := RX8) (T := TX8) (N := 5) hx hb hts hiX8 tyX8 tyX8_ok nmX8 hown hK hP hD hS 0 rfl rfl 2 (by decide) hf18 (fun _ h9 => h9) rfl (by decide +kernel) rfl rfl (Nat.le_of_ble_eq_true rfl) dX8_takeOver_21 (fun H_5 L_6 hP hD hS => ?_)
  have hP : va_P (dC, dI) vwCl [(a_this, .inr (10, [.int other_order, .int other_runWay, .int other_memory, .int mergeWay, .int ways])), (a_other, .inr (10, [.int other_order, .int other_runWay, .int other_memory, .int other_mergeWay, .int other_ways]))] H_5 := hP
  have hD : va_D A [(a_this, .inr (10, [.int other_order, .int other_runWay, .int other_memory, .int mergeWay, .int ways])), (a_other, .inr (10, [.int other_order, .int other_runWay, .int other_memory, .int other_mergeWay, .int other_ways]))] := hD
  refine lv_aload_n hx hb dX8_takeOver_24 rfl (lv_at hl 0 rfl) ?_
  refine lv_aload_n hx hb dX8_takeOver_25 rfl (lv_at hl 1 rfl) ?_
  refine va_get (D := (dC, dI)) (ci := 10) (v := .int other_mergeWay) (C := RX8) (T := TX8) (N := 5) hx hb hts hiX8 hown hK hP 1 rfl rfl 3 (by decide) hf21 (fun _ h9 => h9) rfl dX8_takeOver_26 ?_
  refine va_put (D := (dC, dI)) (ci := 10) (v := .int other_mergeWay) (ty := .int) (C := RX8) (T := TX8) (N := 5) hx hb hts hiX8 tyX8 tyX8_ok nmX8 hown hK hP hD hS 0 rfl rfl 3 (by decide) hf21 (fun _ h9 => h9) rfl (by decide +kernel) rfl rfl (Nat.le_of_ble_eq_true rfl) dX8_takeOver_29 (fun H_7 L_8 hP hD hS => ?_)
  have hP : va_P (dC, dI) vwCl [(a_this, .inr (10, [.int other_order, .int other_runWay, .int other_memory, .int other_mergeWay, .int ways])), (a_other, .inr (10, [.int other_order, .int other_runWay, .int other_memory, .int other_mergeWay, .int other_ways]))] H_7 := hP
  have hD : va_D A [(a_this, .inr (10, [.int other_order, .int other_runWay, .int other_memory, .int other_mergeWay, .int ways])), (a_other, .inr (10, [.int other_order, .int other_runWay, .int other_memory, .int other_mergeWay, .int other_ways]))] := hD
  refine lv_aload_n hx hb dX8_takeOver_32 rfl (lv_at hl 0 rfl) ?_
  refine lv_aload_n hx hb dX8_takeOver_33 rfl (lv_at hl 1 rfl) ?_
  refine va_get (D := (dC, dI)) (ci := 10) (v := .int other_ways) (C := RX8) (T := TX8) (N := 5) hx hb hts hiX8 hown hK hP 1 rfl rfl 4 (by decide) hf24 (fun _ h9 => h9) rfl dX8_takeOver_34 ?_
  refine va_put (D := (dC, dI)) (ci := 10) (v := .int other_ways) (ty := .int) (C := RX8) (T := TX8) (N := 5) hx hb hts hiX8 tyX8 tyX8_ok nmX8 hown hK hP hD hS 0 rfl rfl 4 (by decide) hf24 (fun _ h9 => h9) rfl (by decide +kernel) rfl rfl (Nat.le_of_ble_eq_true rfl) dX8_takeOver_37 (fun H_9 L_10 hP hD hS => ?_)
  have hP : va_P (dC, dI) vwCl [(a_this, .inr (10, [.int other_order, .int other_runWay, .int other_memory, .int other_mergeWay, .int other_ways])), (a_other, .inr (10, [.int other_order, .int other_runWay, .int other_memory, .int other_mergeWay, .int other_ways]))] H_9 := hP
  have hD : va_D A [(a_this, .inr (10, [.int other_order, .int other_runWay, .int other_memory, .int other_mergeWay, .int other_ways])), (a_other, .inr (10, [.int other_order, .int other_runWay, .int other_memory, .int other_mergeWay, .int other_ways]))] := hD
  have hP9 := hP.sub (ws' := [(a_this, .inr (10, [.int other_order, .int other_runWay, .int other_memory, .int other_mergeWay, .int other_ways])), (a_other, .inr (10, [.int other_order, .int other_runWay, .int other_memory, .int other_mergeWay, .int other_ways]))]) [0, 1] rfl
  have hD9 := hD.sub (ws' := [(a_this, .inr (10, [.int other_order, .int other_runWay, .int other_memory, .int other_mergeWay, .int other_ways])), (a_other, .inr (10, [.int other_order, .int other_runWay, .int other_memory, .int other_mergeWay, .int other_ways]))]) [0, 1] (by decide) rfl
  exact W.vret hx hb hr (fun t ht hW => ⟨⟨(other_order, other_runWay, other_memory, other_mergeWay, other_ways, ()), rfl, hw, ⟨P_at ht hP9, hD9⟩⟩, hS.F ht⟩) hS.2.2 dX8_takeOver_40
theorem dX7_empty_0 : decode cX7_empty 0 = .ok (.aload_n 0, 1) := by decide +kernel
theorem dX7_empty_1 : decode cX7_empty 1 = .ok (.iconst 0, 1) := by decide +kernel
theorem dX7_empty_2 : decode cX7_empty 2 = .ok (.putfield 21, 3) := by decide +kernel
theorem dX7_empty_5 : decode cX7_empty 5 = .ok (.aload_n 0, 1) := by decide +kernel
theorem dX7_empty_6 : decode cX7_empty 6 = .ok (.iconst 0, 1) := by decide +kernel
theorem dX7_empty_7 : decode cX7_empty 7 = .ok (.putfield 25, 3) := by decide +kernel
theorem dX7_empty_10 : decode cX7_empty 10 = .ok (.return_, 1) := by decide +kernel
abbrev Wa_X7_empty (a_this : Nat) (a_ranks : Nat) (a_starts : Nat) (a_lengths : Nat) (count : Int32) (filled : Int32) : va_W := [(a_this, .inr (9, [.ref a_ranks, .ref a_starts, .ref a_lengths, .int count, .int filled]))]
abbrev Wb_X7_empty (a_this : Nat) (a_ranks : Nat) (a_starts : Nat) (a_lengths : Nat) (u : Int32 × Int32 × Unit) : va_W := [(a_this, .inr (9, [.ref a_ranks, .ref a_starts, .ref a_lengths, .int u.1, .int u.2.1]))]
set_option maxHeartbeats 8000000 in
set_option maxRecDepth 100000 in
theorem c_X7_empty (l : Launch) (dC : Nat → ClassId) (dI : Nat → Nat → Nat) (g : Nat → ClassId) (a_this : Nat) (a_ranks : Nat) (a_starts : Nat) (a_lengths : Nat) (count : Int32) (filled : Int32) (Q : Int32 → Int32 → Prop) (hw : wp_X7_empty Q) (sz : Nat) : Met l yX7_empty wqX7_empty ({ frames := 0, cells := 0, slots := 0, locals := 0 }) (va_Pc [.ref a_this] (PG (dC, dI) g (Wa_X7_empty a_this a_ranks a_starts a_lengths count filled) sz)) (va_Qv (fun (u : Int32 × Int32 × Unit) => Q u.1 u.2.1) (fun (u : Int32 × Int32 × Unit) t9 => va_P (dC, dI) vwCl (Wb_X7_empty a_this a_ranks a_starts a_lengths u) t9.heap ∧ va_D (va_A (Wa_X7_empty a_this a_ranks a_starts a_lengths count filled) sz) (Wb_X7_empty a_this a_ranks a_starts a_lengths u)) (va_A (Wa_X7_empty a_this a_ranks a_starts a_lengths count filled) sz)) 0 0 (va_A (Wa_X7_empty a_this a_ranks a_starts a_lengths count filled) sz) := by
  refine Met.ofW (cc := cX7_empty) (maxL := 1) (ret := none) (by decide) rfl ?_
  intro p e s m args below meth c s₁ B hml hv
  obtain ⟨rfl, hsz, hP, hK, hD0, hG⟩ := hv
  have hx := B.exec
  have hb := B.bytes
  have hr := B.returns
  have hts := atoms_spec (ws := wqX7_empty) B.pre
  have hown : s.vm.findClass RX7 = some m.cls := findClass_of_methodNamed B.named
  have hlocks := B.notSynchronized
  subst hsz
  have hD := hD0.self (sz := s.heap.size)
  generalize hAe : va_A (Wa_X7_empty a_this a_ranks a_starts a_lengths count filled) s.heap.size = A at hD hG ⊢
  have hA : ∀ q : Nat, s.heap.size ≤ q → A q := fun q h => by rw [← hAe]; exact Or.inr h
  have hS : va_S A s.heap s.heap [] := va_S.rf
  have hl := lv_entry ([.ref a_this]) (n := 1) (Nat.le_of_ble_eq_true rfl)
  rw [lg_entry_eq]
  generalize (lg_sl ([.ref a_this]) ++ List.replicate (1 - (lg_sl ([.ref a_this])).length) Slot.unset).toArray = ls at hl ⊢
  have hl : lv_has ls 1 [(0, .ref a_this)] := hl
  unfold wp_X7_empty at hw
  have hf21 := hts (Cond.fieldLink RX7 21 "RunmergeOffice$RunRow" "count" "I") (aw_l aw_1_144)
  have hiX7 : ∀ w ∈ u_ws RX7 TX7 5, w ∈ wqX7_empty := fun w h => aw_l (aw_wsX70 w h)
  have hf25 := hts (Cond.fieldLink RX7 25 "RunmergeOffice$RunRow" "filled" "I") (aw_l aw_1_150)
  refine lv_aload_n hx hb dX7_empty_0 rfl (lv_at hl 0 rfl) ?_
  refine lv_iconst (v := 0) hx hb dX7_empty_1 (by decide) ?_
  refine va_put (D := (dC, dI)) (ci := 9) (v := .int 0) (ty := .int) (C := RX7) (T := TX7) (N := 5) hx hb hts hiX7 tyX7 tyX7_ok nmX7 hown hK hP hD hS 0 rfl rfl 3 (by decide) hf21 (fun _ h9 => h9) rfl (by decide +kernel) rfl rfl (Nat.le_of_ble_eq_true rfl) dX7_empty_2 (fun H_1 L_2 hP hD hS => ?_)
  have hP : va_P (dC, dI) vwCl [(a_this, .inr (9, [.ref a_ranks, .ref a_starts, .ref a_lengths, .int 0, .int filled]))] H_1 := hP
  have hD : va_D A [(a_this, .inr (9, [.ref a_ranks, .ref a_starts, .ref a_lengths, .int 0, .int filled]))] := hD
  refine lv_aload_n hx hb dX7_empty_5 rfl (lv_at hl 0 rfl) ?_
  refine lv_iconst (v := 0) hx hb dX7_empty_6 (by decide) ?_
  refine va_put (D := (dC, dI)) (ci := 9) (v := .int 0) (ty := .int) (C := RX7) (T := TX7) (N := 5) hx hb hts hiX7 tyX7 tyX7_ok nmX7 hown hK hP hD hS 0 rfl rfl 4 (by decide) hf25 (fun _ h9 => h9) rfl (by decide +kernel) rfl rfl (Nat.le_of_ble_eq_true rfl) dX7_empty_7 (fun H_3 L_4 hP hD hS => ?_)
  have hP : va_P (dC, dI) vwCl [(a_this, .inr (9, [.ref a_ranks, .ref a_starts, .ref a_lengths, .int 0, .int 0]))] H_3 := hP
  have hD : va_D A [(a_this, .inr (9, [.ref a_ranks, .ref a_starts, .ref a_lengths, .int 0, .int 0]))] := hD
  have hP9 := hP.sub (ws' := [(a_this, .inr (9, [.ref a_ranks, .ref a_starts, .ref a_lengths, .int 0, .int 0]))]) [0] rfl
  have hD9 := hD.sub (ws' := [(a_this, .inr (9, [.ref a_ranks, .ref a_starts, .ref a_lengths, .int 0, .int 0]))]) [0] (by decide) rfl
  exact W.vret hx hb hr (fun t ht hW => ⟨⟨(0, 0, ()), rfl, hw, ⟨P_at ht hP9, hD9⟩⟩, hS.F ht⟩) hS.2.2 dX7_empty_10
theorem dX7_openRun_0 : decode cX7_openRun 0 = .ok (.aload_n 0, 1) := by decide +kernel
theorem dX7_openRun_1 : decode cX7_openRun 1 = .ok (.getfield 21, 3) := by decide +kernel
theorem dX7_openRun_4 : decode cX7_openRun 4 = .ok (.ifCond .lt 46, 3) := by decide +kernel
theorem dX7_openRun_50 : decode cX7_openRun 50 = .ok (.return_, 1) := by decide +kernel
theorem dX7_openRun_7 : decode cX7_openRun 7 = .ok (.aload_n 0, 1) := by decide +kernel
theorem dX7_openRun_8 : decode cX7_openRun 8 = .ok (.getfield 21, 3) := by decide +kernel
theorem dX7_openRun_11 : decode cX7_openRun 11 = .ok (.sipush 200, 3) := by decide +kernel
theorem dX7_openRun_14 : decode cX7_openRun 14 = .ok (.if_icmp .ge 36, 3) := by decide +kernel
theorem dX7_openRun_17 : decode cX7_openRun 17 = .ok (.aload_n 0, 1) := by decide +kernel
theorem dX7_openRun_18 : decode cX7_openRun 18 = .ok (.getfield 15, 3) := by decide +kernel
theorem dX7_openRun_21 : decode cX7_openRun 21 = .ok (.aload_n 0, 1) := by decide +kernel
theorem dX7_openRun_22 : decode cX7_openRun 22 = .ok (.getfield 21, 3) := by decide +kernel
theorem dX7_openRun_25 : decode cX7_openRun 25 = .ok (.aload_n 0, 1) := by decide +kernel
theorem dX7_openRun_26 : decode cX7_openRun 26 = .ok (.getfield 25, 3) := by decide +kernel
theorem dX7_openRun_29 : decode cX7_openRun 29 = .ok (.iastore, 1) := by decide +kernel
theorem dX7_openRun_30 : decode cX7_openRun 30 = .ok (.aload_n 0, 1) := by decide +kernel
theorem dX7_openRun_31 : decode cX7_openRun 31 = .ok (.getfield 18, 3) := by decide +kernel
theorem dX7_openRun_34 : decode cX7_openRun 34 = .ok (.aload_n 0, 1) := by decide +kernel
theorem dX7_openRun_35 : decode cX7_openRun 35 = .ok (.getfield 21, 3) := by decide +kernel
theorem dX7_openRun_38 : decode cX7_openRun 38 = .ok (.iconst 0, 1) := by decide +kernel
theorem dX7_openRun_39 : decode cX7_openRun 39 = .ok (.iastore, 1) := by decide +kernel
theorem dX7_openRun_40 : decode cX7_openRun 40 = .ok (.aload_n 0, 1) := by decide +kernel
theorem dX7_openRun_41 : decode cX7_openRun 41 = .ok (.dup, 1) := by decide +kernel
theorem dX7_openRun_42 : decode cX7_openRun 42 = .ok (.getfield 21, 3) := by decide +kernel
theorem dX7_openRun_45 : decode cX7_openRun 45 = .ok (.iconst 1, 1) := by decide +kernel
theorem dX7_openRun_46 : decode cX7_openRun 46 = .ok (.iadd, 1) := by decide +kernel
theorem dX7_openRun_47 : decode cX7_openRun 47 = .ok (.putfield 21, 3) := by decide +kernel
abbrev Wa_X7_openRun (g : Nat → ClassId) (a_this : Nat) (a_ranks : Nat) (a_starts : Nat) (a_lengths : Nat) (count : Int32) (filled : Int32) (starts : Nat → Int32) (lengths : Nat → Int32) : va_W := [(a_this, .inr (9, [.ref a_ranks, .ref a_starts, .ref a_lengths, .int count, .int filled])), (a_starts, .inl (g 0, 200, .inl starts)), (a_lengths, .inl (g 0, 200, .inl lengths))]
abbrev Wb_X7_openRun (g : Nat → ClassId) (a_this : Nat) (a_ranks : Nat) (a_starts : Nat) (a_lengths : Nat) (filled : Int32) (u : Int32 × (Nat → Int32) × (Nat → Int32) × Unit) : va_W := [(a_this, .inr (9, [.ref a_ranks, .ref a_starts, .ref a_lengths, .int u.1, .int filled])), (a_starts, .inl (g 0, 200, .inl u.2.1)), (a_lengths, .inl (g 0, 200, .inl u.2.2.1))]
set_option maxHeartbeats 8000000 in
set_option maxRecDepth 100000 in
theorem c_X7_openRun (l : Launch) (dC : Nat → ClassId) (dI : Nat → Nat → Nat) (g : Nat → ClassId) (a_this : Nat) (a_ranks : Nat) (a_starts : Nat) (a_lengths : Nat) (count : Int32) (filled : Int32) (starts : Nat → Int32) (lengths : Nat → Int32) (Q : Int32 → (Nat → Int32) → (Nat → Int32) → Prop) (hw : wp_X7_openRun count filled starts lengths Q) (sz : Nat) : Met l yX7_openRun wqX7_openRun ({ frames := 0, cells := 0, slots := 0, locals := 0 }) (va_Pc [.ref a_this] (PG (dC, dI) g (Wa_X7_openRun g a_this a_ranks a_starts a_lengths count filled starts lengths) sz)) (va_Qv (fun (u : Int32 × (Nat → Int32) × (Nat → Int32) × Unit) => Q u.1 u.2.1 u.2.2.1) (fun (u : Int32 × (Nat → Int32) × (Nat → Int32) × Unit) t9 => va_P (dC, dI) vwCl (Wb_X7_openRun g a_this a_ranks a_starts a_lengths filled u) t9.heap ∧ va_D (va_A (Wa_X7_openRun g a_this a_ranks a_starts a_lengths count filled starts lengths) sz) (Wb_X7_openRun g a_this a_ranks a_starts a_lengths filled u)) (va_A (Wa_X7_openRun g a_this a_ranks a_starts a_lengths count filled starts lengths) sz)) 0 0 (va_A (Wa_X7_openRun g a_this a_ranks a_starts a_lengths count filled starts lengths) sz) := by
  refine Met.ofW (cc := cX7_openRun) (maxL := 1) (ret := none) (by decide) rfl ?_
  intro p e s m args below meth c s₁ B hml hv
  obtain ⟨rfl, hsz, hP, hK, hD0, hG⟩ := hv
  have hx := B.exec
  have hb := B.bytes
  have hr := B.returns
  have hts := atoms_spec (ws := wqX7_openRun) B.pre
  have hown : s.vm.findClass RX7 = some m.cls := findClass_of_methodNamed B.named
  have hlocks := B.notSynchronized
  subst hsz
  have hD := hD0.self (sz := s.heap.size)
  generalize hAe : va_A (Wa_X7_openRun g a_this a_ranks a_starts a_lengths count filled starts lengths) s.heap.size = A at hD hG ⊢
  have hA : ∀ q : Nat, s.heap.size ≤ q → A q := fun q h => by rw [← hAe]; exact Or.inr h
  have hS : va_S A s.heap s.heap [] := va_S.rf
  have hl := lv_entry ([.ref a_this]) (n := 1) (Nat.le_of_ble_eq_true rfl)
  rw [lg_entry_eq]
  generalize (lg_sl ([.ref a_this]) ++ List.replicate (1 - (lg_sl ([.ref a_this])).length) Slot.unset).toArray = ls at hl ⊢
  have hl : lv_has ls 1 [(0, .ref a_this)] := hl
  unfold wp_X7_openRun at hw
  have hf21 := hts (Cond.fieldLink RX7 21 "RunmergeOffice$RunRow" "count" "I") (aw_l aw_1_144)
  have hiX7 : ∀ w ∈ u_ws RX7 TX7 5, w ∈ wqX7_openRun := fun w h => aw_l (aw_wsX70 w h)
  have hf15 := hts (Cond.fieldLink RX7 15 "RunmergeOffice$RunRow" "starts" "[I") (aw_l aw_1_141)
  have hf25 := hts (Cond.fieldLink RX7 25 "RunmergeOffice$RunRow" "filled" "I") (aw_l aw_1_150)
  have hf18 := hts (Cond.fieldLink RX7 18 "RunmergeOffice$RunRow" "lengths" "[I") (aw_l aw_1_142)
  refine lv_aload_n hx hb dX7_openRun_0 rfl (lv_at hl 0 rfl) ?_
  refine va_get (D := (dC, dI)) (ci := 9) (v := .int count) (C := RX7) (T := TX7) (N := 5) hx hb hts hiX7 hown hK hP 0 rfl rfl 3 (by decide) hf21 (fun _ h9 => h9) rfl dX7_openRun_1 ?_
  refine lv_if_lt (tgt := 50) hx hb dX7_openRun_4 (by decide) (fun c_1 => ?_) (fun c_1 => ?_)
  · have hw := hw.1 c_1
    have hP9 := hP.sub (ws' := [(a_this, .inr (9, [.ref a_ranks, .ref a_starts, .ref a_lengths, .int count, .int filled])), (a_starts, .inl (g 0, 200, .inl starts)), (a_lengths, .inl (g 0, 200, .inl lengths))]) [0, 1, 2] rfl
    have hD9 := hD.sub (ws' := [(a_this, .inr (9, [.ref a_ranks, .ref a_starts, .ref a_lengths, .int count, .int filled])), (a_starts, .inl (g 0, 200, .inl starts)), (a_lengths, .inl (g 0, 200, .inl lengths))]) [0, 1, 2] (by decide) rfl
    exact W.vret hx hb hr (fun t ht hW => ⟨⟨(count, starts, lengths, ()), rfl, hw, ⟨P_at ht hP9, hD9⟩⟩, hS.F ht⟩) hS.2.2 dX7_openRun_50
  · have hw := hw.2 c_1
    refine lv_aload_n hx hb dX7_openRun_7 rfl (lv_at hl 0 rfl) ?_
    refine va_get (D := (dC, dI)) (ci := 9) (v := .int count) (C := RX7) (T := TX7) (N := 5) hx hb hts hiX7 hown hK hP 0 rfl rfl 3 (by decide) hf21 (fun _ h9 => h9) rfl dX7_openRun_8 ?_
    refine lv_sipush (v := 200) hx hb dX7_openRun_11 (by decide) ?_
    refine lv_icmp_ge (tgt := 50) hx hb dX7_openRun_14 (by decide) (fun c_2 => ?_) (fun c_2 => ?_)
    · have hw := hw.1 c_2
      have hP9 := hP.sub (ws' := [(a_this, .inr (9, [.ref a_ranks, .ref a_starts, .ref a_lengths, .int count, .int filled])), (a_starts, .inl (g 0, 200, .inl starts)), (a_lengths, .inl (g 0, 200, .inl lengths))]) [0, 1, 2] rfl
      have hD9 := hD.sub (ws' := [(a_this, .inr (9, [.ref a_ranks, .ref a_starts, .ref a_lengths, .int count, .int filled])), (a_starts, .inl (g 0, 200, .inl starts)), (a_lengths, .inl (g 0, 200, .inl lengths))]) [0, 1, 2] (by decide) rfl
      exact W.vret hx hb hr (fun t ht hW => ⟨⟨(count, starts, lengths, ()), rfl, hw, ⟨P_at ht hP9, hD9⟩⟩, hS.F ht⟩) hS.2.2 dX7_openRun_50
    · have hw := hw.2 c_2
      refine lv_aload_n hx hb dX7_openRun_17 rfl (lv_at hl 0 rfl) ?_
      refine va_get (D := (dC, dI)) (ci := 9) (v := .ref a_starts) (C := RX7) (T := TX7) (N := 5) hx hb hts hiX7 hown hK hP 0 rfl rfl 1 (by decide) hf15 (fun _ h9 => h9) rfl dX7_openRun_18 ?_
      refine lv_aload_n hx hb dX7_openRun_21 rfl (lv_at hl 0 rfl) ?_
      refine va_get (D := (dC, dI)) (ci := 9) (v := .int count) (C := RX7) (T := TX7) (N := 5) hx hb hts hiX7 hown hK hP 0 rfl rfl 3 (by decide) hf21 (fun _ h9 => h9) rfl dX7_openRun_22 ?_
      refine lv_aload_n hx hb dX7_openRun_25 rfl (lv_at hl 0 rfl) ?_
      refine va_get (D := (dC, dI)) (ci := 9) (v := .int filled) (C := RX7) (T := TX7) (N := 5) hx hb hts hiX7 hown hK hP 0 rfl rfl 4 (by decide) hf25 (fun _ h9 => h9) rfl dX7_openRun_26 ?_
      refine va_iast hx hb hK hP hD hS 1 0 rfl rfl hw.1 dX7_openRun_29 (fun H_3 L_4 hP hD hS => ?_)
      have hw := hw.2
      have hP : va_P (dC, dI) vwCl [(a_this, .inr (9, [.ref a_ranks, .ref a_starts, .ref a_lengths, .int count, .int filled])), (a_starts, .inl (g 0, 200, .inl (upd starts count.toNatClampNeg filled))), (a_lengths, .inl (g 0, 200, .inl lengths))] H_3 := hP
      have hD : va_D A [(a_this, .inr (9, [.ref a_ranks, .ref a_starts, .ref a_lengths, .int count, .int filled])), (a_starts, .inl (g 0, 200, .inl (upd starts count.toNatClampNeg filled))), (a_lengths, .inl (g 0, 200, .inl lengths))] := hD
      refine lv_aload_n hx hb dX7_openRun_30 rfl (lv_at hl 0 rfl) ?_
      refine va_get (D := (dC, dI)) (ci := 9) (v := .ref a_lengths) (C := RX7) (T := TX7) (N := 5) hx hb hts hiX7 hown hK hP 0 rfl rfl 2 (by decide) hf18 (fun _ h9 => h9) rfl dX7_openRun_31 ?_
      refine lv_aload_n hx hb dX7_openRun_34 rfl (lv_at hl 0 rfl) ?_
      refine va_get (D := (dC, dI)) (ci := 9) (v := .int count) (C := RX7) (T := TX7) (N := 5) hx hb hts hiX7 hown hK hP 0 rfl rfl 3 (by decide) hf21 (fun _ h9 => h9) rfl dX7_openRun_35 ?_
      refine lv_iconst (v := 0) hx hb dX7_openRun_38 (by decide) ?_
      refine va_iast hx hb hK hP hD hS 2 0 rfl rfl hw.1 dX7_openRun_39 (fun H_5 L_6 hP hD hS => ?_)
      have hw := hw.2
      have hP : va_P (dC, dI) vwCl [(a_this, .inr (9, [.ref a_ranks, .ref a_starts, .ref a_lengths, .int count, .int filled])), (a_starts, .inl (g 0, 200, .inl (upd starts count.toNatClampNeg filled))), (a_lengths, .inl (g 0, 200, .inl (upd lengths count.toNatClampNeg 0)))] H_5 := hP
      have hD : va_D A [(a_this, .inr (9, [.ref a_ranks, .ref a_starts, .ref a_lengths, .int count, .int filled])), (a_starts, .inl (g 0, 200, .inl (upd starts count.toNatClampNeg filled))), (a_lengths, .inl (g 0, 200, .inl (upd lengths count.toNatClampNeg 0)))] := hD
      refine lv_aload_n hx hb dX7_openRun_40 rfl (lv_at hl 0 rfl) ?_
      refine lv_dup hx hb dX7_openRun_41 rfl ?_
      refine va_get (D := (dC, dI)) (ci := 9) (v := .int count) (C := RX7) (T := TX7) (N := 5) hx hb hts hiX7 hown hK hP 0 rfl rfl 3 (by decide) hf21 (fun _ h9 => h9) rfl dX7_openRun_42 ?_
      refine lv_iconst (v := 1) hx hb dX7_openRun_45 (by decide) ?_
      refine lv_iadd hx hb dX7_openRun_46 ?_
      refine lv_topi (fun x_7 ex_7 => ?_)
      have hw := hw x_7 ex_7
      refine va_put (D := (dC, dI)) (ci := 9) (v := .int x_7) (ty := .int) (C := RX7) (T := TX7) (N := 5) hx hb hts hiX7 tyX7 tyX7_ok nmX7 hown hK hP hD hS 0 rfl rfl 3 (by decide) hf21 (fun _ h9 => h9) rfl (by decide +kernel) rfl rfl (Nat.le_of_ble_eq_true rfl) dX7_openRun_47 (fun H_8 L_9 hP hD hS => ?_)
      have hP : va_P (dC, dI) vwCl [(a_this, .inr (9, [.ref a_ranks, .ref a_starts, .ref a_lengths, .int x_7, .int filled])), (a_starts, .inl (g 0, 200, .inl (upd starts count.toNatClampNeg filled))), (a_lengths, .inl (g 0, 200, .inl (upd lengths count.toNatClampNeg 0)))] H_8 := hP
      have hD : va_D A [(a_this, .inr (9, [.ref a_ranks, .ref a_starts, .ref a_lengths, .int x_7, .int filled])), (a_starts, .inl (g 0, 200, .inl (upd starts count.toNatClampNeg filled))), (a_lengths, .inl (g 0, 200, .inl (upd lengths count.toNatClampNeg 0)))] := hD
      have hP9 := hP.sub (ws' := [(a_this, .inr (9, [.ref a_ranks, .ref a_starts, .ref a_lengths, .int x_7, .int filled])), (a_starts, .inl (g 0, 200, .inl (upd starts count.toNatClampNeg filled))), (a_lengths, .inl (g 0, 200, .inl (upd lengths count.toNatClampNeg 0)))]) [0, 1, 2] rfl
      have hD9 := hD.sub (ws' := [(a_this, .inr (9, [.ref a_ranks, .ref a_starts, .ref a_lengths, .int x_7, .int filled])), (a_starts, .inl (g 0, 200, .inl (upd starts count.toNatClampNeg filled))), (a_lengths, .inl (g 0, 200, .inl (upd lengths count.toNatClampNeg 0)))]) [0, 1, 2] (by decide) rfl
      exact W.vret hx hb hr (fun t ht hW => ⟨⟨(x_7, (upd starts count.toNatClampNeg filled), (upd lengths count.toNatClampNeg 0), ()), rfl, hw, ⟨P_at ht hP9, hD9⟩⟩, hS.F ht⟩) hS.2.2 dX7_openRun_50
theorem dX7_add_0 : decode cX7_add 0 = .ok (.aload_n 0, 1) := by decide +kernel
theorem dX7_add_1 : decode cX7_add 1 = .ok (.getfield 21, 3) := by decide +kernel
theorem dX7_add_4 : decode cX7_add 4 = .ok (.ifCond .le 64, 3) := by decide +kernel
theorem dX7_add_68 : decode cX7_add 68 = .ok (.return_, 1) := by decide +kernel
theorem dX7_add_7 : decode cX7_add 7 = .ok (.aload_n 0, 1) := by decide +kernel
theorem dX7_add_8 : decode cX7_add 8 = .ok (.getfield 21, 3) := by decide +kernel
theorem dX7_add_11 : decode cX7_add 11 = .ok (.sipush 200, 3) := by decide +kernel
theorem dX7_add_14 : decode cX7_add 14 = .ok (.if_icmp .gt 54, 3) := by decide +kernel
theorem dX7_add_17 : decode cX7_add 17 = .ok (.aload_n 0, 1) := by decide +kernel
theorem dX7_add_18 : decode cX7_add 18 = .ok (.getfield 25, 3) := by decide +kernel
theorem dX7_add_21 : decode cX7_add 21 = .ok (.ifCond .lt 47, 3) := by decide +kernel
theorem dX7_add_24 : decode cX7_add 24 = .ok (.aload_n 0, 1) := by decide +kernel
theorem dX7_add_25 : decode cX7_add 25 = .ok (.getfield 25, 3) := by decide +kernel
theorem dX7_add_28 : decode cX7_add 28 = .ok (.bipush 100, 2) := by decide +kernel
theorem dX7_add_30 : decode cX7_add 30 = .ok (.if_icmp .ge 38, 3) := by decide +kernel
theorem dX7_add_33 : decode cX7_add 33 = .ok (.aload_n 0, 1) := by decide +kernel
theorem dX7_add_34 : decode cX7_add 34 = .ok (.getfield 9, 3) := by decide +kernel
theorem dX7_add_37 : decode cX7_add 37 = .ok (.aload_n 0, 1) := by decide +kernel
theorem dX7_add_38 : decode cX7_add 38 = .ok (.getfield 25, 3) := by decide +kernel
theorem dX7_add_41 : decode cX7_add 41 = .ok (.iload_n 1, 1) := by decide +kernel
theorem dX7_add_42 : decode cX7_add 42 = .ok (.iastore, 1) := by decide +kernel
theorem dX7_add_43 : decode cX7_add 43 = .ok (.aload_n 0, 1) := by decide +kernel
theorem dX7_add_44 : decode cX7_add 44 = .ok (.dup, 1) := by decide +kernel
theorem dX7_add_45 : decode cX7_add 45 = .ok (.getfield 25, 3) := by decide +kernel
theorem dX7_add_48 : decode cX7_add 48 = .ok (.iconst 1, 1) := by decide +kernel
theorem dX7_add_49 : decode cX7_add 49 = .ok (.iadd, 1) := by decide +kernel
theorem dX7_add_50 : decode cX7_add 50 = .ok (.putfield 25, 3) := by decide +kernel
theorem dX7_add_53 : decode cX7_add 53 = .ok (.aload_n 0, 1) := by decide +kernel
theorem dX7_add_54 : decode cX7_add 54 = .ok (.getfield 18, 3) := by decide +kernel
theorem dX7_add_57 : decode cX7_add 57 = .ok (.aload_n 0, 1) := by decide +kernel
theorem dX7_add_58 : decode cX7_add 58 = .ok (.getfield 21, 3) := by decide +kernel
theorem dX7_add_61 : decode cX7_add 61 = .ok (.iconst 1, 1) := by decide +kernel
theorem dX7_add_62 : decode cX7_add 62 = .ok (.isub, 1) := by decide +kernel
theorem dX7_add_63 : decode cX7_add 63 = .ok (.dup2, 1) := by decide +kernel
theorem dX7_add_64 : decode cX7_add 64 = .ok (.iaload, 1) := by decide +kernel
theorem dX7_add_65 : decode cX7_add 65 = .ok (.iconst 1, 1) := by decide +kernel
theorem dX7_add_66 : decode cX7_add 66 = .ok (.iadd, 1) := by decide +kernel
theorem dX7_add_67 : decode cX7_add 67 = .ok (.iastore, 1) := by decide +kernel
abbrev Wa_X7_add (g : Nat → ClassId) (a_this : Nat) (a_ranks : Nat) (a_starts : Nat) (a_lengths : Nat) (count : Int32) (filled : Int32) (ranks : Nat → Int32) (lengths : Nat → Int32) : va_W := [(a_this, .inr (9, [.ref a_ranks, .ref a_starts, .ref a_lengths, .int count, .int filled])), (a_ranks, .inl (g 0, 100, .inl ranks)), (a_lengths, .inl (g 0, 200, .inl lengths))]
abbrev Wb_X7_add (g : Nat → ClassId) (a_this : Nat) (a_ranks : Nat) (a_starts : Nat) (a_lengths : Nat) (count : Int32) (u : Int32 × (Nat → Int32) × (Nat → Int32) × Unit) : va_W := [(a_this, .inr (9, [.ref a_ranks, .ref a_starts, .ref a_lengths, .int count, .int u.1])), (a_ranks, .inl (g 0, 100, .inl u.2.1)), (a_lengths, .inl (g 0, 200, .inl u.2.2.1))]
set_option maxHeartbeats 8000000 in
set_option maxRecDepth 100000 in
theorem c_X7_add (l : Launch) (dC : Nat → ClassId) (dI : Nat → Nat → Nat) (g : Nat → ClassId) (a_this : Nat) (a_ranks : Nat) (a_starts : Nat) (a_lengths : Nat) (count : Int32) (filled : Int32) (ranks : Nat → Int32) (lengths : Nat → Int32) (rank : Int32) (Q : Int32 → (Nat → Int32) → (Nat → Int32) → Prop) (hw : wp_X7_add count filled ranks lengths rank Q) (sz : Nat) : Met l yX7_add wqX7_add ({ frames := 0, cells := 0, slots := 0, locals := 0 }) (va_Pc [.ref a_this, .int rank] (PG (dC, dI) g (Wa_X7_add g a_this a_ranks a_starts a_lengths count filled ranks lengths) sz)) (va_Qv (fun (u : Int32 × (Nat → Int32) × (Nat → Int32) × Unit) => Q u.1 u.2.1 u.2.2.1) (fun (u : Int32 × (Nat → Int32) × (Nat → Int32) × Unit) t9 => va_P (dC, dI) vwCl (Wb_X7_add g a_this a_ranks a_starts a_lengths count u) t9.heap ∧ va_D (va_A (Wa_X7_add g a_this a_ranks a_starts a_lengths count filled ranks lengths) sz) (Wb_X7_add g a_this a_ranks a_starts a_lengths count u)) (va_A (Wa_X7_add g a_this a_ranks a_starts a_lengths count filled ranks lengths) sz)) 0 0 (va_A (Wa_X7_add g a_this a_ranks a_starts a_lengths count filled ranks lengths) sz) := by
  refine Met.ofW (cc := cX7_add) (maxL := 2) (ret := none) (by decide) rfl ?_
  intro p e s m args below meth c s₁ B hml hv
  obtain ⟨rfl, hsz, hP, hK, hD0, hG⟩ := hv
  have hx := B.exec
  have hb := B.bytes
  have hr := B.returns
  have hts := atoms_spec (ws := wqX7_add) B.pre
  have hown : s.vm.findClass RX7 = some m.cls := findClass_of_methodNamed B.named
  have hlocks := B.notSynchronized
  subst hsz
  have hD := hD0.self (sz := s.heap.size)
  generalize hAe : va_A (Wa_X7_add g a_this a_ranks a_starts a_lengths count filled ranks lengths) s.heap.size = A at hD hG ⊢
  have hA : ∀ q : Nat, s.heap.size ≤ q → A q := fun q h => by rw [← hAe]; exact Or.inr h
  have hS : va_S A s.heap s.heap [] := va_S.rf
  have hl := lv_entry ([.ref a_this, .int rank]) (n := 2) (Nat.le_of_ble_eq_true rfl)
  rw [lg_entry_eq]
  generalize (lg_sl ([.ref a_this, .int rank]) ++ List.replicate (2 - (lg_sl ([.ref a_this, .int rank])).length) Slot.unset).toArray = ls at hl ⊢
  have hl : lv_has ls 2 [(0, .ref a_this), (1, .int rank)] := hl
  unfold wp_X7_add at hw
  have hf21 := hts (Cond.fieldLink RX7 21 "RunmergeOffice$RunRow" "count" "I") (aw_l aw_1_144)
  have hiX7 : ∀ w ∈ u_ws RX7 TX7 5, w ∈ wqX7_add := fun w h => aw_l (aw_wsX70 w h)
  have hf25 := hts (Cond.fieldLink RX7 25 "RunmergeOffice$RunRow" "filled" "I") (aw_l aw_1_150)
  have hf9 := hts (Cond.fieldLink RX7 9 "RunmergeOffice$RunRow" "ranks" "[I") (aw_l aw_1_140)
  have hf18 := hts (Cond.fieldLink RX7 18 "RunmergeOffice$RunRow" "lengths" "[I") (aw_l aw_1_142)
  refine lv_aload_n hx hb dX7_add_0 rfl (lv_at hl 0 rfl) ?_
  refine va_get (D := (dC, dI)) (ci := 9) (v := .int count) (C := RX7) (T := TX7) (N := 5) hx hb hts hiX7 hown hK hP 0 rfl rfl 3 (by decide) hf21 (fun _ h9 => h9) rfl dX7_add_1 ?_
  refine lv_if_le (tgt := 68) hx hb dX7_add_4 (by decide) (fun c_1 => ?_) (fun c_1 => ?_)
  · have hw := hw.1 c_1
    have hP9 := hP.sub (ws' := [(a_this, .inr (9, [.ref a_ranks, .ref a_starts, .ref a_lengths, .int count, .int filled])), (a_ranks, .inl (g 0, 100, .inl ranks)), (a_lengths, .inl (g 0, 200, .inl lengths))]) [0, 1, 2] rfl
    have hD9 := hD.sub (ws' := [(a_this, .inr (9, [.ref a_ranks, .ref a_starts, .ref a_lengths, .int count, .int filled])), (a_ranks, .inl (g 0, 100, .inl ranks)), (a_lengths, .inl (g 0, 200, .inl lengths))]) [0, 1, 2] (by decide) rfl
    exact W.vret hx hb hr (fun t ht hW => ⟨⟨(filled, ranks, lengths, ()), rfl, hw, ⟨P_at ht hP9, hD9⟩⟩, hS.F ht⟩) hS.2.2 dX7_add_68
  · have hw := hw.2 c_1
    refine lv_aload_n hx hb dX7_add_7 rfl (lv_at hl 0 rfl) ?_
    refine va_get (D := (dC, dI)) (ci := 9) (v := .int count) (C := RX7) (T := TX7) (N := 5) hx hb hts hiX7 hown hK hP 0 rfl rfl 3 (by decide) hf21 (fun _ h9 => h9) rfl dX7_add_8 ?_
    refine lv_sipush (v := 200) hx hb dX7_add_11 (by decide) ?_
    refine lv_icmp_gt (tgt := 68) hx hb dX7_add_14 (by decide) (fun c_2 => ?_) (fun c_2 => ?_)
    · have hw := hw.1 c_2
      have hP9 := hP.sub (ws' := [(a_this, .inr (9, [.ref a_ranks, .ref a_starts, .ref a_lengths, .int count, .int filled])), (a_ranks, .inl (g 0, 100, .inl ranks)), (a_lengths, .inl (g 0, 200, .inl lengths))]) [0, 1, 2] rfl
      have hD9 := hD.sub (ws' := [(a_this, .inr (9, [.ref a_ranks, .ref a_starts, .ref a_lengths, .int count, .int filled])), (a_ranks, .inl (g 0, 100, .inl ranks)), (a_lengths, .inl (g 0, 200, .inl lengths))]) [0, 1, 2] (by decide) rfl
      exact W.vret hx hb hr (fun t ht hW => ⟨⟨(filled, ranks, lengths, ()), rfl, hw, ⟨P_at ht hP9, hD9⟩⟩, hS.F ht⟩) hS.2.2 dX7_add_68
    · have hw := hw.2 c_2
      refine lv_aload_n hx hb dX7_add_17 rfl (lv_at hl 0 rfl) ?_
      refine va_get (D := (dC, dI)) (ci := 9) (v := .int filled) (C := RX7) (T := TX7) (N := 5) hx hb hts hiX7 hown hK hP 0 rfl rfl 4 (by decide) hf25 (fun _ h9 => h9) rfl dX7_add_18 ?_
      refine lv_if_lt (tgt := 68) hx hb dX7_add_21 (by decide) (fun c_3 => ?_) (fun c_3 => ?_)
      · have hw := hw.1 c_3
        have hP9 := hP.sub (ws' := [(a_this, .inr (9, [.ref a_ranks, .ref a_starts, .ref a_lengths, .int count, .int filled])), (a_ranks, .inl (g 0, 100, .inl ranks)), (a_lengths, .inl (g 0, 200, .inl lengths))]) [0, 1, 2] rfl
        have hD9 := hD.sub (ws' := [(a_this, .inr (9, [.ref a_ranks, .ref a_starts, .ref a_lengths, .int count, .int filled])), (a_ranks, .inl (g 0, 100, .inl ranks)), (a_lengths, .inl (g 0, 200, .inl lengths))]) [0, 1, 2] (by decide) rfl
        exact W.vret hx hb hr (fun t ht hW => ⟨⟨(filled, ranks, lengths, ()), rfl, hw, ⟨P_at ht hP9, hD9⟩⟩, hS.F ht⟩) hS.2.2 dX7_add_68
      · have hw := hw.2 c_3
        refine lv_aload_n hx hb dX7_add_24 rfl (lv_at hl 0 rfl) ?_
        refine va_get (D := (dC, dI)) (ci := 9) (v := .int filled) (C := RX7) (T := TX7) (N := 5) hx hb hts hiX7 hown hK hP 0 rfl rfl 4 (by decide) hf25 (fun _ h9 => h9) rfl dX7_add_25 ?_
        refine lv_bipush (v := 100) hx hb dX7_add_28 (by decide) ?_
        refine lv_icmp_ge (tgt := 68) hx hb dX7_add_30 (by decide) (fun c_4 => ?_) (fun c_4 => ?_)
        · have hw := hw.1 c_4
          have hP9 := hP.sub (ws' := [(a_this, .inr (9, [.ref a_ranks, .ref a_starts, .ref a_lengths, .int count, .int filled])), (a_ranks, .inl (g 0, 100, .inl ranks)), (a_lengths, .inl (g 0, 200, .inl lengths))]) [0, 1, 2] rfl
          have hD9 := hD.sub (ws' := [(a_this, .inr (9, [.ref a_ranks, .ref a_starts, .ref a_lengths, .int count, .int filled])), (a_ranks, .inl (g 0, 100, .inl ranks)), (a_lengths, .inl (g 0, 200, .inl lengths))]) [0, 1, 2] (by decide) rfl
          exact W.vret hx hb hr (fun t ht hW => ⟨⟨(filled, ranks, lengths, ()), rfl, hw, ⟨P_at ht hP9, hD9⟩⟩, hS.F ht⟩) hS.2.2 dX7_add_68
        · have hw := hw.2 c_4
          refine lv_aload_n hx hb dX7_add_33 rfl (lv_at hl 0 rfl) ?_
          refine va_get (D := (dC, dI)) (ci := 9) (v := .ref a_ranks) (C := RX7) (T := TX7) (N := 5) hx hb hts hiX7 hown hK hP 0 rfl rfl 0 (by decide) hf9 (fun _ h9 => h9) rfl dX7_add_34 ?_
          refine lv_aload_n hx hb dX7_add_37 rfl (lv_at hl 0 rfl) ?_
          refine va_get (D := (dC, dI)) (ci := 9) (v := .int filled) (C := RX7) (T := TX7) (N := 5) hx hb hts hiX7 hown hK hP 0 rfl rfl 4 (by decide) hf25 (fun _ h9 => h9) rfl dX7_add_38 ?_
          refine lv_iload_n hx hb dX7_add_41 rfl (lv_at hl 1 rfl) ?_
          refine va_iast hx hb hK hP hD hS 1 0 rfl rfl hw.1 dX7_add_42 (fun H_5 L_6 hP hD hS => ?_)
          have hw := hw.2
          have hP : va_P (dC, dI) vwCl [(a_this, .inr (9, [.ref a_ranks, .ref a_starts, .ref a_lengths, .int count, .int filled])), (a_ranks, .inl (g 0, 100, .inl (upd ranks filled.toNatClampNeg rank))), (a_lengths, .inl (g 0, 200, .inl lengths))] H_5 := hP
          have hD : va_D A [(a_this, .inr (9, [.ref a_ranks, .ref a_starts, .ref a_lengths, .int count, .int filled])), (a_ranks, .inl (g 0, 100, .inl (upd ranks filled.toNatClampNeg rank))), (a_lengths, .inl (g 0, 200, .inl lengths))] := hD
          refine lv_aload_n hx hb dX7_add_43 rfl (lv_at hl 0 rfl) ?_
          refine lv_dup hx hb dX7_add_44 rfl ?_
          refine va_get (D := (dC, dI)) (ci := 9) (v := .int filled) (C := RX7) (T := TX7) (N := 5) hx hb hts hiX7 hown hK hP 0 rfl rfl 4 (by decide) hf25 (fun _ h9 => h9) rfl dX7_add_45 ?_
          refine lv_iconst (v := 1) hx hb dX7_add_48 (by decide) ?_
          refine lv_iadd hx hb dX7_add_49 ?_
          refine lv_topi (fun x_7 ex_7 => ?_)
          have hw := hw x_7 ex_7
          refine va_put (D := (dC, dI)) (ci := 9) (v := .int x_7) (ty := .int) (C := RX7) (T := TX7) (N := 5) hx hb hts hiX7 tyX7 tyX7_ok nmX7 hown hK hP hD hS 0 rfl rfl 4 (by decide) hf25 (fun _ h9 => h9) rfl (by decide +kernel) rfl rfl (Nat.le_of_ble_eq_true rfl) dX7_add_50 (fun H_8 L_9 hP hD hS => ?_)
          have hP : va_P (dC, dI) vwCl [(a_this, .inr (9, [.ref a_ranks, .ref a_starts, .ref a_lengths, .int count, .int x_7])), (a_ranks, .inl (g 0, 100, .inl (upd ranks filled.toNatClampNeg rank))), (a_lengths, .inl (g 0, 200, .inl lengths))] H_8 := hP
          have hD : va_D A [(a_this, .inr (9, [.ref a_ranks, .ref a_starts, .ref a_lengths, .int count, .int x_7])), (a_ranks, .inl (g 0, 100, .inl (upd ranks filled.toNatClampNeg rank))), (a_lengths, .inl (g 0, 200, .inl lengths))] := hD
          refine lv_aload_n hx hb dX7_add_53 rfl (lv_at hl 0 rfl) ?_
          refine va_get (D := (dC, dI)) (ci := 9) (v := .ref a_lengths) (C := RX7) (T := TX7) (N := 5) hx hb hts hiX7 hown hK hP 0 rfl rfl 2 (by decide) hf18 (fun _ h9 => h9) rfl dX7_add_54 ?_
          refine lv_aload_n hx hb dX7_add_57 rfl (lv_at hl 0 rfl) ?_
          refine va_get (D := (dC, dI)) (ci := 9) (v := .int count) (C := RX7) (T := TX7) (N := 5) hx hb hts hiX7 hown hK hP 0 rfl rfl 3 (by decide) hf21 (fun _ h9 => h9) rfl dX7_add_58 ?_
          refine lv_iconst (v := 1) hx hb dX7_add_61 (by decide) ?_
          refine lv_isub hx hb dX7_add_62 ?_
          refine lv_topi (fun x_10 ex_10 => ?_)
          have hw := hw x_10 ex_10
          refine lv_dup2_11 hx hb dX7_add_63 rfl rfl ?_
          refine va_iald hx hb hK hP 2 0 rfl rfl hw.1 dX7_add_64 ?_
          have hw := hw.2
          refine lv_topi (fun x_11 ex_11 => ?_)
          have hw := hw x_11 ex_11
          refine lv_iconst (v := 1) hx hb dX7_add_65 (by decide) ?_
          refine lv_iadd hx hb dX7_add_66 ?_
          refine lv_topi (fun x_12 ex_12 => ?_)
          have hw := hw x_12 ex_12
          refine va_iast hx hb hK hP hD hS 2 0 rfl rfl hw.1 dX7_add_67 (fun H_13 L_14 hP hD hS => ?_)
          have hw := hw.2
          have hP : va_P (dC, dI) vwCl [(a_this, .inr (9, [.ref a_ranks, .ref a_starts, .ref a_lengths, .int count, .int x_7])), (a_ranks, .inl (g 0, 100, .inl (upd ranks filled.toNatClampNeg rank))), (a_lengths, .inl (g 0, 200, .inl (upd lengths x_10.toNatClampNeg x_12)))] H_13 := hP
          have hD : va_D A [(a_this, .inr (9, [.ref a_ranks, .ref a_starts, .ref a_lengths, .int count, .int x_7])), (a_ranks, .inl (g 0, 100, .inl (upd ranks filled.toNatClampNeg rank))), (a_lengths, .inl (g 0, 200, .inl (upd lengths x_10.toNatClampNeg x_12)))] := hD
          have hP9 := hP.sub (ws' := [(a_this, .inr (9, [.ref a_ranks, .ref a_starts, .ref a_lengths, .int count, .int x_7])), (a_ranks, .inl (g 0, 100, .inl (upd ranks filled.toNatClampNeg rank))), (a_lengths, .inl (g 0, 200, .inl (upd lengths x_10.toNatClampNeg x_12)))]) [0, 1, 2] rfl
          have hD9 := hD.sub (ws' := [(a_this, .inr (9, [.ref a_ranks, .ref a_starts, .ref a_lengths, .int count, .int x_7])), (a_ranks, .inl (g 0, 100, .inl (upd ranks filled.toNatClampNeg rank))), (a_lengths, .inl (g 0, 200, .inl (upd lengths x_10.toNatClampNeg x_12)))]) [0, 1, 2] (by decide) rfl
          exact W.vret hx hb hr (fun t ht hW => ⟨⟨(x_7, (upd ranks filled.toNatClampNeg rank), (upd lengths x_10.toNatClampNeg x_12), ()), rfl, hw, ⟨P_at ht hP9, hD9⟩⟩, hS.F ht⟩) hS.2.2 dX7_add_68
theorem dX7_addRunOf_0 : decode cX7_addRunOf 0 = .ok (.iload_n 2, 1) := by decide +kernel
theorem dX7_addRunOf_1 : decode cX7_addRunOf 1 = .ok (.ifCond .lt 27, 3) := by decide +kernel
theorem dX7_addRunOf_28 : decode cX7_addRunOf 28 = .ok (.return_, 1) := by decide +kernel
theorem dX7_addRunOf_4 : decode cX7_addRunOf 4 = .ok (.iload_n 2, 1) := by decide +kernel
theorem dX7_addRunOf_5 : decode cX7_addRunOf 5 = .ok (.sipush 200, 3) := by decide +kernel
theorem dX7_addRunOf_8 : decode cX7_addRunOf 8 = .ok (.if_icmp .ge 20, 3) := by decide +kernel
theorem dX7_addRunOf_11 : decode cX7_addRunOf 11 = .ok (.aload_n 0, 1) := by decide +kernel
theorem dX7_addRunOf_12 : decode cX7_addRunOf 12 = .ok (.getfield 21, 3) := by decide +kernel
theorem dX7_addRunOf_15 : decode cX7_addRunOf 15 = .ok (.ifCond .lt 13, 3) := by decide +kernel
theorem dX7_addRunOf_18 : decode cX7_addRunOf 18 = .ok (.aload_n 0, 1) := by decide +kernel
theorem dX7_addRunOf_19 : decode cX7_addRunOf 19 = .ok (.getfield 21, 3) := by decide +kernel
theorem dX7_addRunOf_22 : decode cX7_addRunOf 22 = .ok (.sipush 200, 3) := by decide +kernel
theorem dX7_addRunOf_25 : decode cX7_addRunOf 25 = .ok (.if_icmp .lt 4, 3) := by decide +kernel
theorem dX7_addRunOf_29 : decode cX7_addRunOf 29 = .ok (.aload_n 1, 1) := by decide +kernel
theorem dX7_addRunOf_30 : decode cX7_addRunOf 30 = .ok (.getfield 18, 3) := by decide +kernel
theorem dX7_addRunOf_33 : decode cX7_addRunOf 33 = .ok (.iload_n 2, 1) := by decide +kernel
theorem dX7_addRunOf_34 : decode cX7_addRunOf 34 = .ok (.iaload, 1) := by decide +kernel
theorem dX7_addRunOf_35 : decode cX7_addRunOf 35 = .ok (.istore_n 3, 1) := by decide +kernel
theorem dX7_addRunOf_36 : decode cX7_addRunOf 36 = .ok (.aload_n 1, 1) := by decide +kernel
theorem dX7_addRunOf_37 : decode cX7_addRunOf 37 = .ok (.getfield 15, 3) := by decide +kernel
theorem dX7_addRunOf_40 : decode cX7_addRunOf 40 = .ok (.iload_n 2, 1) := by decide +kernel
theorem dX7_addRunOf_41 : decode cX7_addRunOf 41 = .ok (.iaload, 1) := by decide +kernel
theorem dX7_addRunOf_42 : decode cX7_addRunOf 42 = .ok (.istore 4, 2) := by decide +kernel
theorem dX7_addRunOf_44 : decode cX7_addRunOf 44 = .ok (.iload 4, 2) := by decide +kernel
theorem dX7_addRunOf_46 : decode cX7_addRunOf 46 = .ok (.ifCond .lt 30, 3) := by decide +kernel
theorem dX7_addRunOf_76 : decode cX7_addRunOf 76 = .ok (.return_, 1) := by decide +kernel
theorem dX7_addRunOf_49 : decode cX7_addRunOf 49 = .ok (.aload_n 0, 1) := by decide +kernel
theorem dX7_addRunOf_50 : decode cX7_addRunOf 50 = .ok (.getfield 25, 3) := by decide +kernel
theorem dX7_addRunOf_53 : decode cX7_addRunOf 53 = .ok (.ifCond .lt 23, 3) := by decide +kernel
theorem dX7_addRunOf_56 : decode cX7_addRunOf 56 = .ok (.iload 4, 2) := by decide +kernel
theorem dX7_addRunOf_58 : decode cX7_addRunOf 58 = .ok (.iload_n 3, 1) := by decide +kernel
theorem dX7_addRunOf_59 : decode cX7_addRunOf 59 = .ok (.iadd, 1) := by decide +kernel
theorem dX7_addRunOf_60 : decode cX7_addRunOf 60 = .ok (.bipush 100, 2) := by decide +kernel
theorem dX7_addRunOf_62 : decode cX7_addRunOf 62 = .ok (.if_icmp .gt 14, 3) := by decide +kernel
theorem dX7_addRunOf_65 : decode cX7_addRunOf 65 = .ok (.aload_n 0, 1) := by decide +kernel
theorem dX7_addRunOf_66 : decode cX7_addRunOf 66 = .ok (.getfield 25, 3) := by decide +kernel
theorem dX7_addRunOf_69 : decode cX7_addRunOf 69 = .ok (.iload_n 3, 1) := by decide +kernel
theorem dX7_addRunOf_70 : decode cX7_addRunOf 70 = .ok (.iadd, 1) := by decide +kernel
theorem dX7_addRunOf_71 : decode cX7_addRunOf 71 = .ok (.bipush 100, 2) := by decide +kernel
theorem dX7_addRunOf_73 : decode cX7_addRunOf 73 = .ok (.if_icmp .le 4, 3) := by decide +kernel
theorem dX7_addRunOf_77 : decode cX7_addRunOf 77 = .ok (.aload_n 0, 1) := by decide +kernel
theorem dX7_addRunOf_78 : decode cX7_addRunOf 78 = .ok (.getfield 15, 3) := by decide +kernel
theorem dX7_addRunOf_81 : decode cX7_addRunOf 81 = .ok (.aload_n 0, 1) := by decide +kernel
theorem dX7_addRunOf_82 : decode cX7_addRunOf 82 = .ok (.getfield 21, 3) := by decide +kernel
theorem dX7_addRunOf_85 : decode cX7_addRunOf 85 = .ok (.aload_n 0, 1) := by decide +kernel
theorem dX7_addRunOf_86 : decode cX7_addRunOf 86 = .ok (.getfield 25, 3) := by decide +kernel
theorem dX7_addRunOf_89 : decode cX7_addRunOf 89 = .ok (.iastore, 1) := by decide +kernel
theorem dX7_addRunOf_90 : decode cX7_addRunOf 90 = .ok (.aload_n 0, 1) := by decide +kernel
theorem dX7_addRunOf_91 : decode cX7_addRunOf 91 = .ok (.getfield 18, 3) := by decide +kernel
theorem dX7_addRunOf_94 : decode cX7_addRunOf 94 = .ok (.aload_n 0, 1) := by decide +kernel
theorem dX7_addRunOf_95 : decode cX7_addRunOf 95 = .ok (.getfield 21, 3) := by decide +kernel
theorem dX7_addRunOf_98 : decode cX7_addRunOf 98 = .ok (.iload_n 3, 1) := by decide +kernel
theorem dX7_addRunOf_99 : decode cX7_addRunOf 99 = .ok (.iastore, 1) := by decide +kernel
theorem dX7_addRunOf_100 : decode cX7_addRunOf 100 = .ok (.aload_n 0, 1) := by decide +kernel
theorem dX7_addRunOf_101 : decode cX7_addRunOf 101 = .ok (.dup, 1) := by decide +kernel
theorem dX7_addRunOf_102 : decode cX7_addRunOf 102 = .ok (.getfield 21, 3) := by decide +kernel
theorem dX7_addRunOf_105 : decode cX7_addRunOf 105 = .ok (.iconst 1, 1) := by decide +kernel
theorem dX7_addRunOf_106 : decode cX7_addRunOf 106 = .ok (.iadd, 1) := by decide +kernel
theorem dX7_addRunOf_107 : decode cX7_addRunOf 107 = .ok (.putfield 21, 3) := by decide +kernel
theorem dX7_addRunOf_110 : decode cX7_addRunOf 110 = .ok (.iconst 0, 1) := by decide +kernel
theorem dX7_addRunOf_111 : decode cX7_addRunOf 111 = .ok (.istore 5, 2) := by decide +kernel
theorem dX7_addRunOf_147 : decode cX7_addRunOf 147 = .ok (.aload_n 0, 1) := by decide +kernel
theorem dX7_addRunOf_148 : decode cX7_addRunOf 148 = .ok (.dup, 1) := by decide +kernel
theorem dX7_addRunOf_149 : decode cX7_addRunOf 149 = .ok (.getfield 25, 3) := by decide +kernel
theorem dX7_addRunOf_152 : decode cX7_addRunOf 152 = .ok (.iload_n 3, 1) := by decide +kernel
theorem dX7_addRunOf_153 : decode cX7_addRunOf 153 = .ok (.iadd, 1) := by decide +kernel
theorem dX7_addRunOf_154 : decode cX7_addRunOf 154 = .ok (.putfield 25, 3) := by decide +kernel
theorem dX7_addRunOf_157 : decode cX7_addRunOf 157 = .ok (.return_, 1) := by decide +kernel
theorem dX7_addRunOf_113 : decode cX7_addRunOf 113 = .ok (.iload 5, 2) := by decide +kernel
theorem dX7_addRunOf_115 : decode cX7_addRunOf 115 = .ok (.iload_n 3, 1) := by decide +kernel
theorem dX7_addRunOf_116 : decode cX7_addRunOf 116 = .ok (.if_icmp .ge 31, 3) := by decide +kernel
theorem dX7_addRunOf_119 : decode cX7_addRunOf 119 = .ok (.aload_n 0, 1) := by decide +kernel
theorem dX7_addRunOf_120 : decode cX7_addRunOf 120 = .ok (.getfield 9, 3) := by decide +kernel
theorem dX7_addRunOf_123 : decode cX7_addRunOf 123 = .ok (.aload_n 0, 1) := by decide +kernel
theorem dX7_addRunOf_124 : decode cX7_addRunOf 124 = .ok (.getfield 25, 3) := by decide +kernel
theorem dX7_addRunOf_127 : decode cX7_addRunOf 127 = .ok (.iload 5, 2) := by decide +kernel
theorem dX7_addRunOf_129 : decode cX7_addRunOf 129 = .ok (.iadd, 1) := by decide +kernel
theorem dX7_addRunOf_130 : decode cX7_addRunOf 130 = .ok (.aload_n 1, 1) := by decide +kernel
theorem dX7_addRunOf_131 : decode cX7_addRunOf 131 = .ok (.getfield 9, 3) := by decide +kernel
theorem dX7_addRunOf_134 : decode cX7_addRunOf 134 = .ok (.iload 4, 2) := by decide +kernel
theorem dX7_addRunOf_136 : decode cX7_addRunOf 136 = .ok (.iload 5, 2) := by decide +kernel
theorem dX7_addRunOf_138 : decode cX7_addRunOf 138 = .ok (.iadd, 1) := by decide +kernel
theorem dX7_addRunOf_139 : decode cX7_addRunOf 139 = .ok (.iaload, 1) := by decide +kernel
theorem dX7_addRunOf_140 : decode cX7_addRunOf 140 = .ok (.iastore, 1) := by decide +kernel
theorem dX7_addRunOf_141 : decode cX7_addRunOf 141 = .ok (.iinc 5 1, 3) := by decide +kernel
theorem dX7_addRunOf_144 : decode cX7_addRunOf 144 = .ok (.goto (-31), 3) := by decide +kernel
abbrev Wa_X7_addRunOf (g : Nat → ClassId) (a_this : Nat) (a_other : Nat) (a_ranks : Nat) (a_starts : Nat) (a_lengths : Nat) (count : Int32) (filled : Int32) (starts : Nat → Int32) (lengths : Nat → Int32) (ranks : Nat → Int32) (a_other_ranks : Nat) (a_other_starts : Nat) (a_other_lengths : Nat) (other_count : Int32) (other_filled : Int32) (other_lengths : Nat → Int32) (other_starts : Nat → Int32) (other_ranks : Nat → Int32) : va_W := [(a_this, .inr (9, [.ref a_ranks, .ref a_starts, .ref a_lengths, .int count, .int filled])), (a_starts, .inl (g 0, 200, .inl starts)), (a_lengths, .inl (g 0, 200, .inl lengths)), (a_ranks, .inl (g 0, 100, .inl ranks)), (a_other, .inr (9, [.ref a_other_ranks, .ref a_other_starts, .ref a_other_lengths, .int other_count, .int other_filled])), (a_other_lengths, .inl (g 0, 200, .inl other_lengths)), (a_other_starts, .inl (g 0, 200, .inl other_starts)), (a_other_ranks, .inl (g 0, 100, .inl other_ranks))]
abbrev Wb_X7_addRunOf (g : Nat → ClassId) (a_this : Nat) (a_other : Nat) (a_ranks : Nat) (a_starts : Nat) (a_lengths : Nat) (a_other_ranks : Nat) (a_other_starts : Nat) (a_other_lengths : Nat) (other_count : Int32) (other_filled : Int32) (other_lengths : Nat → Int32) (other_starts : Nat → Int32) (other_ranks : Nat → Int32) (u : Int32 × Int32 × (Nat → Int32) × (Nat → Int32) × (Nat → Int32) × Unit) : va_W := [(a_this, .inr (9, [.ref a_ranks, .ref a_starts, .ref a_lengths, .int u.1, .int u.2.1])), (a_starts, .inl (g 0, 200, .inl u.2.2.1)), (a_lengths, .inl (g 0, 200, .inl u.2.2.2.1)), (a_ranks, .inl (g 0, 100, .inl u.2.2.2.2.1)), (a_other, .inr (9, [.ref a_other_ranks, .ref a_other_starts, .ref a_other_lengths, .int other_count, .int other_filled])), (a_other_lengths, .inl (g 0, 200, .inl other_lengths)), (a_other_starts, .inl (g 0, 200, .inl other_starts)), (a_other_ranks, .inl (g 0, 100, .inl other_ranks))]
set_option maxHeartbeats 8000000 in
set_option maxRecDepth 100000 in
theorem c_X7_addRunOf (l : Launch) (dC : Nat → ClassId) (dI : Nat → Nat → Nat) (g : Nat → ClassId) (a_this : Nat) (a_other : Nat) (a_ranks : Nat) (a_starts : Nat) (a_lengths : Nat) (count : Int32) (filled : Int32) (starts : Nat → Int32) (lengths : Nat → Int32) (ranks : Nat → Int32) (a_other_ranks : Nat) (a_other_starts : Nat) (a_other_lengths : Nat) (other_count : Int32) (other_filled : Int32) (other_lengths : Nat → Int32) (other_starts : Nat → Int32) (other_ranks : Nat → Int32) (run : Int32) (Q : Int32 → Int32 → (Nat → Int32) → (Nat → Int32) → (Nat → Int32) → Prop) (hw : wp_X7_addRunOf count filled starts lengths ranks other_lengths other_starts other_ranks run Q) (sz : Nat) : Met l yX7_addRunOf wqX7_addRunOf ({ frames := 0, cells := 0, slots := 0, locals := 0 }) (va_Pc [.ref a_this, .ref a_other, .int run] (PG (dC, dI) g (Wa_X7_addRunOf g a_this a_other a_ranks a_starts a_lengths count filled starts lengths ranks a_other_ranks a_other_starts a_other_lengths other_count other_filled other_lengths other_starts other_ranks) sz)) (va_Qv (fun (u : Int32 × Int32 × (Nat → Int32) × (Nat → Int32) × (Nat → Int32) × Unit) => Q u.1 u.2.1 u.2.2.1 u.2.2.2.1 u.2.2.2.2.1) (fun (u : Int32 × Int32 × (Nat → Int32) × (Nat → Int32) × (Nat → Int32) × Unit) t9 => va_P (dC, dI) vwCl (Wb_X7_addRunOf g a_this a_other a_ranks a_starts a_lengths a_other_ranks a_other_starts a_other_lengths other_count other_filled other_lengths other_starts other_ranks u) t9.heap ∧ va_D (va_A (Wa_X7_addRunOf g a_this a_other a_ranks a_starts a_lengths count filled starts lengths ranks a_other_ranks a_other_starts a_other_lengths other_count other_filled other_lengths other_starts other_ranks) sz) (Wb_X7_addRunOf g a_this a_other a_ranks a_starts a_lengths a_other_ranks a_other_starts a_other_lengths other_count other_filled other_lengths other_starts other_ranks u)) (va_A (Wa_X7_addRunOf g a_this a_other a_ranks a_starts a_lengths count filled starts lengths ranks a_other_ranks a_other_starts a_other_lengths other_count other_filled other_lengths other_starts other_ranks) sz)) 0 0 (va_A (Wa_X7_addRunOf g a_this a_other a_ranks a_starts a_lengths count filled starts lengths ranks a_other_ranks a_other_starts a_other_lengths other_count other_filled other_lengths other_starts other_ranks) sz) := by
  refine Met.ofW (cc := cX7_addRunOf) (maxL := 6) (ret := none) (by decide) rfl ?_
  intro p e s m args below meth c s₁ B hml hv
  obtain ⟨rfl, hsz, hP, hK, hD0, hG⟩ := hv
  have hx := B.exec
  have hb := B.bytes
  have hr := B.returns
  have hts := atoms_spec (ws := wqX7_addRunOf) B.pre
  have hown : s.vm.findClass RX7 = some m.cls := findClass_of_methodNamed B.named
  have hlocks := B.notSynchronized
  subst hsz
  have hD := hD0.self (sz := s.heap.size)
  generalize hAe : va_A (Wa_X7_addRunOf g a_this a_other a_ranks a_starts a_lengths count filled starts lengths ranks a_other_ranks a_other_starts a_other_lengths other_count other_filled other_lengths other_starts other_ranks) s.heap.size = A at hD hG ⊢
  have hA : ∀ q : Nat, s.heap.size ≤ q → A q := fun q h => by rw [← hAe]; exact Or.inr h
  have hS : va_S A s.heap s.heap [] := va_S.rf
  have hl := lv_entry ([.ref a_this, .ref a_other, .int run]) (n := 6) (Nat.le_of_ble_eq_true rfl)
  rw [lg_entry_eq]
  generalize (lg_sl ([.ref a_this, .ref a_other, .int run]) ++ List.replicate (6 - (lg_sl ([.ref a_this, .ref a_other, .int run])).length) Slot.unset).toArray = ls at hl ⊢
  have hl : lv_has ls 6 [(0, .ref a_this), (1, .ref a_other), (2, .int run)] := hl
  unfold wp_X7_addRunOf at hw
  have hf21 := hts (Cond.fieldLink RX7 21 "RunmergeOffice$RunRow" "count" "I") (aw_l aw_1_144)
  have hiX7 : ∀ w ∈ u_ws RX7 TX7 5, w ∈ wqX7_addRunOf := fun w h => aw_l (aw_wsX70 w h)
  have hf18 := hts (Cond.fieldLink RX7 18 "RunmergeOffice$RunRow" "lengths" "[I") (aw_l aw_1_142)
  have hf15 := hts (Cond.fieldLink RX7 15 "RunmergeOffice$RunRow" "starts" "[I") (aw_l aw_1_141)
  have hf25 := hts (Cond.fieldLink RX7 25 "RunmergeOffice$RunRow" "filled" "I") (aw_l aw_1_150)
  have hf9 := hts (Cond.fieldLink RX7 9 "RunmergeOffice$RunRow" "ranks" "[I") (aw_l aw_1_140)
  refine lv_iload_n hx hb dX7_addRunOf_0 rfl (lv_at hl 2 rfl) ?_
  refine lv_if_lt (tgt := 28) hx hb dX7_addRunOf_1 (by decide) (fun c_1 => ?_) (fun c_1 => ?_)
  · have hw := hw.1 c_1
    have hP9 := hP.sub (ws' := [(a_this, .inr (9, [.ref a_ranks, .ref a_starts, .ref a_lengths, .int count, .int filled])), (a_starts, .inl (g 0, 200, .inl starts)), (a_lengths, .inl (g 0, 200, .inl lengths)), (a_ranks, .inl (g 0, 100, .inl ranks)), (a_other, .inr (9, [.ref a_other_ranks, .ref a_other_starts, .ref a_other_lengths, .int other_count, .int other_filled])), (a_other_lengths, .inl (g 0, 200, .inl other_lengths)), (a_other_starts, .inl (g 0, 200, .inl other_starts)), (a_other_ranks, .inl (g 0, 100, .inl other_ranks))]) [0, 1, 2, 3, 4, 5, 6, 7] rfl
    have hD9 := hD.sub (ws' := [(a_this, .inr (9, [.ref a_ranks, .ref a_starts, .ref a_lengths, .int count, .int filled])), (a_starts, .inl (g 0, 200, .inl starts)), (a_lengths, .inl (g 0, 200, .inl lengths)), (a_ranks, .inl (g 0, 100, .inl ranks)), (a_other, .inr (9, [.ref a_other_ranks, .ref a_other_starts, .ref a_other_lengths, .int other_count, .int other_filled])), (a_other_lengths, .inl (g 0, 200, .inl other_lengths)), (a_other_starts, .inl (g 0, 200, .inl other_starts)), (a_other_ranks, .inl (g 0, 100, .inl other_ranks))]) [0, 1, 2, 3, 4, 5, 6, 7] (by decide) rfl
    exact W.vret hx hb hr (fun t ht hW => ⟨⟨(count, filled, starts, lengths, ranks, ()), rfl, hw, ⟨P_at ht hP9, hD9⟩⟩, hS.F ht⟩) hS.2.2 dX7_addRunOf_28
  · have hw := hw.2 c_1
    refine lv_iload_n hx hb dX7_addRunOf_4 rfl (lv_at hl 2 rfl) ?_
    refine lv_sipush (v := 200) hx hb dX7_addRunOf_5 (by decide) ?_
    refine lv_icmp_ge (tgt := 28) hx hb dX7_addRunOf_8 (by decide) (fun c_2 => ?_) (fun c_2 => ?_)
    · have hw := hw.1 c_2
      have hP9 := hP.sub (ws' := [(a_this, .inr (9, [.ref a_ranks, .ref a_starts, .ref a_lengths, .int count, .int filled])), (a_starts, .inl (g 0, 200, .inl starts)), (a_lengths, .inl (g 0, 200, .inl lengths)), (a_ranks, .inl (g 0, 100, .inl ranks)), (a_other, .inr (9, [.ref a_other_ranks, .ref a_other_starts, .ref a_other_lengths, .int other_count, .int other_filled])), (a_other_lengths, .inl (g 0, 200, .inl other_lengths)), (a_other_starts, .inl (g 0, 200, .inl other_starts)), (a_other_ranks, .inl (g 0, 100, .inl other_ranks))]) [0, 1, 2, 3, 4, 5, 6, 7] rfl
      have hD9 := hD.sub (ws' := [(a_this, .inr (9, [.ref a_ranks, .ref a_starts, .ref a_lengths, .int count, .int filled])), (a_starts, .inl (g 0, 200, .inl starts)), (a_lengths, .inl (g 0, 200, .inl lengths)), (a_ranks, .inl (g 0, 100, .inl ranks)), (a_other, .inr (9, [.ref a_other_ranks, .ref a_other_starts, .ref a_other_lengths, .int other_count, .int other_filled])), (a_other_lengths, .inl (g 0, 200, .inl other_lengths)), (a_other_starts, .inl (g 0, 200, .inl other_starts)), (a_other_ranks, .inl (g 0, 100, .inl other_ranks))]) [0, 1, 2, 3, 4, 5, 6, 7] (by decide) rfl
      exact W.vret hx hb hr (fun t ht hW => ⟨⟨(count, filled, starts, lengths, ranks, ()), rfl, hw, ⟨P_at ht hP9, hD9⟩⟩, hS.F ht⟩) hS.2.2 dX7_addRunOf_28
    · have hw := hw.2 c_2
      refine lv_aload_n hx hb dX7_addRunOf_11 rfl (lv_at hl 0 rfl) ?_
      refine va_get (D := (dC, dI)) (ci := 9) (v := .int count) (C := RX7) (T := TX7) (N := 5) hx hb hts hiX7 hown hK hP 0 rfl rfl 3 (by decide) hf21 (fun _ h9 => h9) rfl dX7_addRunOf_12 ?_
      refine lv_if_lt (tgt := 28) hx hb dX7_addRunOf_15 (by decide) (fun c_3 => ?_) (fun c_3 => ?_)
      · have hw := hw.1 c_3
        have hP9 := hP.sub (ws' := [(a_this, .inr (9, [.ref a_ranks, .ref a_starts, .ref a_lengths, .int count, .int filled])), (a_starts, .inl (g 0, 200, .inl starts)), (a_lengths, .inl (g 0, 200, .inl lengths)), (a_ranks, .inl (g 0, 100, .inl ranks)), (a_other, .inr (9, [.ref a_other_ranks, .ref a_other_starts, .ref a_other_lengths, .int other_count, .int other_filled])), (a_other_lengths, .inl (g 0, 200, .inl other_lengths)), (a_other_starts, .inl (g 0, 200, .inl other_starts)), (a_other_ranks, .inl (g 0, 100, .inl other_ranks))]) [0, 1, 2, 3, 4, 5, 6, 7] rfl
        have hD9 := hD.sub (ws' := [(a_this, .inr (9, [.ref a_ranks, .ref a_starts, .ref a_lengths, .int count, .int filled])), (a_starts, .inl (g 0, 200, .inl starts)), (a_lengths, .inl (g 0, 200, .inl lengths)), (a_ranks, .inl (g 0, 100, .inl ranks)), (a_other, .inr (9, [.ref a_other_ranks, .ref a_other_starts, .ref a_other_lengths, .int other_count, .int other_filled])), (a_other_lengths, .inl (g 0, 200, .inl other_lengths)), (a_other_starts, .inl (g 0, 200, .inl other_starts)), (a_other_ranks, .inl (g 0, 100, .inl other_ranks))]) [0, 1, 2, 3, 4, 5, 6, 7] (by decide) rfl
        exact W.vret hx hb hr (fun t ht hW => ⟨⟨(count, filled, starts, lengths, ranks, ()), rfl, hw, ⟨P_at ht hP9, hD9⟩⟩, hS.F ht⟩) hS.2.2 dX7_addRunOf_28
      · have hw := hw.2 c_3
        refine lv_aload_n hx hb dX7_addRunOf_18 rfl (lv_at hl 0 rfl) ?_
        refine va_get (D := (dC, dI)) (ci := 9) (v := .int count) (C := RX7) (T := TX7) (N := 5) hx hb hts hiX7 hown hK hP 0 rfl rfl 3 (by decide) hf21 (fun _ h9 => h9) rfl dX7_addRunOf_19 ?_
        refine lv_sipush (v := 200) hx hb dX7_addRunOf_22 (by decide) ?_
        refine lv_icmp_lt (tgt := 29) hx hb dX7_addRunOf_25 (by decide) (fun c_4 => ?_) (fun c_4 => ?_)
        · have hw := hw.1 c_4
          refine lv_aload_n hx hb dX7_addRunOf_29 rfl (lv_at hl 1 rfl) ?_
          refine va_get (D := (dC, dI)) (ci := 9) (v := .ref a_other_lengths) (C := RX7) (T := TX7) (N := 5) hx hb hts hiX7 hown hK hP 4 rfl rfl 2 (by decide) hf18 (fun _ h9 => h9) rfl dX7_addRunOf_30 ?_
          refine lv_iload_n hx hb dX7_addRunOf_33 rfl (lv_at hl 2 rfl) ?_
          refine va_iald hx hb hK hP 5 0 rfl rfl hw.1 dX7_addRunOf_34 ?_
          have hw := hw.2
          refine lv_topi (fun x_5 ex_5 => ?_)
          have hw := hw x_5 ex_5
          refine lv_istore_n (lv' := [(3, .int x_5), (0, .ref a_this), (1, .ref a_other), (2, .int run)]) hx hb dX7_addRunOf_35 rfl hl (by decide) rfl (fun ls hl => ?_)
          refine lv_aload_n hx hb dX7_addRunOf_36 rfl (lv_at hl 2 rfl) ?_
          refine va_get (D := (dC, dI)) (ci := 9) (v := .ref a_other_starts) (C := RX7) (T := TX7) (N := 5) hx hb hts hiX7 hown hK hP 4 rfl rfl 1 (by decide) hf15 (fun _ h9 => h9) rfl dX7_addRunOf_37 ?_
          refine lv_iload_n hx hb dX7_addRunOf_40 rfl (lv_at hl 3 rfl) ?_
          refine va_iald hx hb hK hP 6 0 rfl rfl hw.1 dX7_addRunOf_41 ?_
          have hw := hw.2
          refine lv_topi (fun x_6 ex_6 => ?_)
          have hw := hw x_6 ex_6
          refine lv_istore (lv' := [(4, .int x_6), (3, .int x_5), (0, .ref a_this), (1, .ref a_other), (2, .int run)]) hx hb dX7_addRunOf_42 hl (by decide) rfl (fun ls hl => ?_)
          refine lv_iload hx hb dX7_addRunOf_44 (lv_at hl 0 rfl) ?_
          refine lv_if_lt (tgt := 76) hx hb dX7_addRunOf_46 (by decide) (fun c_7 => ?_) (fun c_7 => ?_)
          · have hw := hw.1 c_7
            have hP9 := hP.sub (ws' := [(a_this, .inr (9, [.ref a_ranks, .ref a_starts, .ref a_lengths, .int count, .int filled])), (a_starts, .inl (g 0, 200, .inl starts)), (a_lengths, .inl (g 0, 200, .inl lengths)), (a_ranks, .inl (g 0, 100, .inl ranks)), (a_other, .inr (9, [.ref a_other_ranks, .ref a_other_starts, .ref a_other_lengths, .int other_count, .int other_filled])), (a_other_lengths, .inl (g 0, 200, .inl other_lengths)), (a_other_starts, .inl (g 0, 200, .inl other_starts)), (a_other_ranks, .inl (g 0, 100, .inl other_ranks))]) [0, 1, 2, 3, 4, 5, 6, 7] rfl
            have hD9 := hD.sub (ws' := [(a_this, .inr (9, [.ref a_ranks, .ref a_starts, .ref a_lengths, .int count, .int filled])), (a_starts, .inl (g 0, 200, .inl starts)), (a_lengths, .inl (g 0, 200, .inl lengths)), (a_ranks, .inl (g 0, 100, .inl ranks)), (a_other, .inr (9, [.ref a_other_ranks, .ref a_other_starts, .ref a_other_lengths, .int other_count, .int other_filled])), (a_other_lengths, .inl (g 0, 200, .inl other_lengths)), (a_other_starts, .inl (g 0, 200, .inl other_starts)), (a_other_ranks, .inl (g 0, 100, .inl other_ranks))]) [0, 1, 2, 3, 4, 5, 6, 7] (by decide) rfl
            exact W.vret hx hb hr (fun t ht hW => ⟨⟨(count, filled, starts, lengths, ranks, ()), rfl, hw, ⟨P_at ht hP9, hD9⟩⟩, hS.F ht⟩) hS.2.2 dX7_addRunOf_76
          · have hw := hw.2 c_7
            refine lv_aload_n hx hb dX7_addRunOf_49 rfl (lv_at hl 2 rfl) ?_
            refine va_get (D := (dC, dI)) (ci := 9) (v := .int filled) (C := RX7) (T := TX7) (N := 5) hx hb hts hiX7 hown hK hP 0 rfl rfl 4 (by decide) hf25 (fun _ h9 => h9) rfl dX7_addRunOf_50 ?_
            refine lv_if_lt (tgt := 76) hx hb dX7_addRunOf_53 (by decide) (fun c_8 => ?_) (fun c_8 => ?_)
            · have hw := hw.1 c_8
              have hP9 := hP.sub (ws' := [(a_this, .inr (9, [.ref a_ranks, .ref a_starts, .ref a_lengths, .int count, .int filled])), (a_starts, .inl (g 0, 200, .inl starts)), (a_lengths, .inl (g 0, 200, .inl lengths)), (a_ranks, .inl (g 0, 100, .inl ranks)), (a_other, .inr (9, [.ref a_other_ranks, .ref a_other_starts, .ref a_other_lengths, .int other_count, .int other_filled])), (a_other_lengths, .inl (g 0, 200, .inl other_lengths)), (a_other_starts, .inl (g 0, 200, .inl other_starts)), (a_other_ranks, .inl (g 0, 100, .inl other_ranks))]) [0, 1, 2, 3, 4, 5, 6, 7] rfl
              have hD9 := hD.sub (ws' := [(a_this, .inr (9, [.ref a_ranks, .ref a_starts, .ref a_lengths, .int count, .int filled])), (a_starts, .inl (g 0, 200, .inl starts)), (a_lengths, .inl (g 0, 200, .inl lengths)), (a_ranks, .inl (g 0, 100, .inl ranks)), (a_other, .inr (9, [.ref a_other_ranks, .ref a_other_starts, .ref a_other_lengths, .int other_count, .int other_filled])), (a_other_lengths, .inl (g 0, 200, .inl other_lengths)), (a_other_starts, .inl (g 0, 200, .inl other_starts)), (a_other_ranks, .inl (g 0, 100, .inl other_ranks))]) [0, 1, 2, 3, 4, 5, 6, 7] (by decide) rfl
              exact W.vret hx hb hr (fun t ht hW => ⟨⟨(count, filled, starts, lengths, ranks, ()), rfl, hw, ⟨P_at ht hP9, hD9⟩⟩, hS.F ht⟩) hS.2.2 dX7_addRunOf_76
            · have hw := hw.2 c_8
              refine lv_iload hx hb dX7_addRunOf_56 (lv_at hl 0 rfl) ?_
              refine lv_iload_n hx hb dX7_addRunOf_58 rfl (lv_at hl 1 rfl) ?_
              refine lv_iadd hx hb dX7_addRunOf_59 ?_
              refine lv_topi (fun x_9 ex_9 => ?_)
              have hw := hw x_9 ex_9
              refine lv_bipush (v := 100) hx hb dX7_addRunOf_60 (by decide) ?_
              refine lv_icmp_gt (tgt := 76) hx hb dX7_addRunOf_62 (by decide) (fun c_10 => ?_) (fun c_10 => ?_)
              · have hw := hw.1 c_10
                have hP9 := hP.sub (ws' := [(a_this, .inr (9, [.ref a_ranks, .ref a_starts, .ref a_lengths, .int count, .int filled])), (a_starts, .inl (g 0, 200, .inl starts)), (a_lengths, .inl (g 0, 200, .inl lengths)), (a_ranks, .inl (g 0, 100, .inl ranks)), (a_other, .inr (9, [.ref a_other_ranks, .ref a_other_starts, .ref a_other_lengths, .int other_count, .int other_filled])), (a_other_lengths, .inl (g 0, 200, .inl other_lengths)), (a_other_starts, .inl (g 0, 200, .inl other_starts)), (a_other_ranks, .inl (g 0, 100, .inl other_ranks))]) [0, 1, 2, 3, 4, 5, 6, 7] rfl
                have hD9 := hD.sub (ws' := [(a_this, .inr (9, [.ref a_ranks, .ref a_starts, .ref a_lengths, .int count, .int filled])), (a_starts, .inl (g 0, 200, .inl starts)), (a_lengths, .inl (g 0, 200, .inl lengths)), (a_ranks, .inl (g 0, 100, .inl ranks)), (a_other, .inr (9, [.ref a_other_ranks, .ref a_other_starts, .ref a_other_lengths, .int other_count, .int other_filled])), (a_other_lengths, .inl (g 0, 200, .inl other_lengths)), (a_other_starts, .inl (g 0, 200, .inl other_starts)), (a_other_ranks, .inl (g 0, 100, .inl other_ranks))]) [0, 1, 2, 3, 4, 5, 6, 7] (by decide) rfl
                exact W.vret hx hb hr (fun t ht hW => ⟨⟨(count, filled, starts, lengths, ranks, ()), rfl, hw, ⟨P_at ht hP9, hD9⟩⟩, hS.F ht⟩) hS.2.2 dX7_addRunOf_76
              · have hw := hw.2 c_10
                refine lv_aload_n hx hb dX7_addRunOf_65 rfl (lv_at hl 2 rfl) ?_
                refine va_get (D := (dC, dI)) (ci := 9) (v := .int filled) (C := RX7) (T := TX7) (N := 5) hx hb hts hiX7 hown hK hP 0 rfl rfl 4 (by decide) hf25 (fun _ h9 => h9) rfl dX7_addRunOf_66 ?_
                refine lv_iload_n hx hb dX7_addRunOf_69 rfl (lv_at hl 1 rfl) ?_
                refine lv_iadd hx hb dX7_addRunOf_70 ?_
                refine lv_topi (fun x_11 ex_11 => ?_)
                have hw := hw x_11 ex_11
                refine lv_bipush (v := 100) hx hb dX7_addRunOf_71 (by decide) ?_
                refine lv_icmp_le (tgt := 77) hx hb dX7_addRunOf_73 (by decide) (fun c_12 => ?_) (fun c_12 => ?_)
                · have hw := hw.1 c_12
                  refine lv_aload_n hx hb dX7_addRunOf_77 rfl (lv_at hl 2 rfl) ?_
                  refine va_get (D := (dC, dI)) (ci := 9) (v := .ref a_starts) (C := RX7) (T := TX7) (N := 5) hx hb hts hiX7 hown hK hP 0 rfl rfl 1 (by decide) hf15 (fun _ h9 => h9) rfl dX7_addRunOf_78 ?_
                  refine lv_aload_n hx hb dX7_addRunOf_81 rfl (lv_at hl 2 rfl) ?_
                  refine va_get (D := (dC, dI)) (ci := 9) (v := .int count) (C := RX7) (T := TX7) (N := 5) hx hb hts hiX7 hown hK hP 0 rfl rfl 3 (by decide) hf21 (fun _ h9 => h9) rfl dX7_addRunOf_82 ?_
                  refine lv_aload_n hx hb dX7_addRunOf_85 rfl (lv_at hl 2 rfl) ?_
                  refine va_get (D := (dC, dI)) (ci := 9) (v := .int filled) (C := RX7) (T := TX7) (N := 5) hx hb hts hiX7 hown hK hP 0 rfl rfl 4 (by decide) hf25 (fun _ h9 => h9) rfl dX7_addRunOf_86 ?_
                  refine va_iast hx hb hK hP hD hS 1 0 rfl rfl hw.1 dX7_addRunOf_89 (fun H_13 L_14 hP hD hS => ?_)
                  have hw := hw.2
                  have hP : va_P (dC, dI) vwCl [(a_this, .inr (9, [.ref a_ranks, .ref a_starts, .ref a_lengths, .int count, .int filled])), (a_starts, .inl (g 0, 200, .inl (upd starts count.toNatClampNeg filled))), (a_lengths, .inl (g 0, 200, .inl lengths)), (a_ranks, .inl (g 0, 100, .inl ranks)), (a_other, .inr (9, [.ref a_other_ranks, .ref a_other_starts, .ref a_other_lengths, .int other_count, .int other_filled])), (a_other_lengths, .inl (g 0, 200, .inl other_lengths)), (a_other_starts, .inl (g 0, 200, .inl other_starts)), (a_other_ranks, .inl (g 0, 100, .inl other_ranks))] H_13 := hP
                  have hD : va_D A [(a_this, .inr (9, [.ref a_ranks, .ref a_starts, .ref a_lengths, .int count, .int filled])), (a_starts, .inl (g 0, 200, .inl (upd starts count.toNatClampNeg filled))), (a_lengths, .inl (g 0, 200, .inl lengths)), (a_ranks, .inl (g 0, 100, .inl ranks)), (a_other, .inr (9, [.ref a_other_ranks, .ref a_other_starts, .ref a_other_lengths, .int other_count, .int other_filled])), (a_other_lengths, .inl (g 0, 200, .inl other_lengths)), (a_other_starts, .inl (g 0, 200, .inl other_starts)), (a_other_ranks, .inl (g 0, 100, .inl other_ranks))] := hD
                  refine lv_aload_n hx hb dX7_addRunOf_90 rfl (lv_at hl 2 rfl) ?_
                  refine va_get (D := (dC, dI)) (ci := 9) (v := .ref a_lengths) (C := RX7) (T := TX7) (N := 5) hx hb hts hiX7 hown hK hP 0 rfl rfl 2 (by decide) hf18 (fun _ h9 => h9) rfl dX7_addRunOf_91 ?_
                  refine lv_aload_n hx hb dX7_addRunOf_94 rfl (lv_at hl 2 rfl) ?_
                  refine va_get (D := (dC, dI)) (ci := 9) (v := .int count) (C := RX7) (T := TX7) (N := 5) hx hb hts hiX7 hown hK hP 0 rfl rfl 3 (by decide) hf21 (fun _ h9 => h9) rfl dX7_addRunOf_95 ?_
                  refine lv_iload_n hx hb dX7_addRunOf_98 rfl (lv_at hl 1 rfl) ?_
                  refine va_iast hx hb hK hP hD hS 2 0 rfl rfl hw.1 dX7_addRunOf_99 (fun H_15 L_16 hP hD hS => ?_)
                  have hw := hw.2
                  have hP : va_P (dC, dI) vwCl [(a_this, .inr (9, [.ref a_ranks, .ref a_starts, .ref a_lengths, .int count, .int filled])), (a_starts, .inl (g 0, 200, .inl (upd starts count.toNatClampNeg filled))), (a_lengths, .inl (g 0, 200, .inl (upd lengths count.toNatClampNeg x_5))), (a_ranks, .inl (g 0, 100, .inl ranks)), (a_other, .inr (9, [.ref a_other_ranks, .ref a_other_starts, .ref a_other_lengths, .int other_count, .int other_filled])), (a_other_lengths, .inl (g 0, 200, .inl other_lengths)), (a_other_starts, .inl (g 0, 200, .inl other_starts)), (a_other_ranks, .inl (g 0, 100, .inl other_ranks))] H_15 := hP
                  have hD : va_D A [(a_this, .inr (9, [.ref a_ranks, .ref a_starts, .ref a_lengths, .int count, .int filled])), (a_starts, .inl (g 0, 200, .inl (upd starts count.toNatClampNeg filled))), (a_lengths, .inl (g 0, 200, .inl (upd lengths count.toNatClampNeg x_5))), (a_ranks, .inl (g 0, 100, .inl ranks)), (a_other, .inr (9, [.ref a_other_ranks, .ref a_other_starts, .ref a_other_lengths, .int other_count, .int other_filled])), (a_other_lengths, .inl (g 0, 200, .inl other_lengths)), (a_other_starts, .inl (g 0, 200, .inl other_starts)), (a_other_ranks, .inl (g 0, 100, .inl other_ranks))] := hD
                  refine lv_aload_n hx hb dX7_addRunOf_100 rfl (lv_at hl 2 rfl) ?_
                  refine lv_dup hx hb dX7_addRunOf_101 rfl ?_
                  refine va_get (D := (dC, dI)) (ci := 9) (v := .int count) (C := RX7) (T := TX7) (N := 5) hx hb hts hiX7 hown hK hP 0 rfl rfl 3 (by decide) hf21 (fun _ h9 => h9) rfl dX7_addRunOf_102 ?_
                  refine lv_iconst (v := 1) hx hb dX7_addRunOf_105 (by decide) ?_
                  refine lv_iadd hx hb dX7_addRunOf_106 ?_
                  refine lv_topi (fun x_17 ex_17 => ?_)
                  have hw := hw x_17 ex_17
                  refine va_put (D := (dC, dI)) (ci := 9) (v := .int x_17) (ty := .int) (C := RX7) (T := TX7) (N := 5) hx hb hts hiX7 tyX7 tyX7_ok nmX7 hown hK hP hD hS 0 rfl rfl 3 (by decide) hf21 (fun _ h9 => h9) rfl (by decide +kernel) rfl rfl (Nat.le_of_ble_eq_true rfl) dX7_addRunOf_107 (fun H_18 L_19 hP hD hS => ?_)
                  have hP : va_P (dC, dI) vwCl [(a_this, .inr (9, [.ref a_ranks, .ref a_starts, .ref a_lengths, .int x_17, .int filled])), (a_starts, .inl (g 0, 200, .inl (upd starts count.toNatClampNeg filled))), (a_lengths, .inl (g 0, 200, .inl (upd lengths count.toNatClampNeg x_5))), (a_ranks, .inl (g 0, 100, .inl ranks)), (a_other, .inr (9, [.ref a_other_ranks, .ref a_other_starts, .ref a_other_lengths, .int other_count, .int other_filled])), (a_other_lengths, .inl (g 0, 200, .inl other_lengths)), (a_other_starts, .inl (g 0, 200, .inl other_starts)), (a_other_ranks, .inl (g 0, 100, .inl other_ranks))] H_18 := hP
                  have hD : va_D A [(a_this, .inr (9, [.ref a_ranks, .ref a_starts, .ref a_lengths, .int x_17, .int filled])), (a_starts, .inl (g 0, 200, .inl (upd starts count.toNatClampNeg filled))), (a_lengths, .inl (g 0, 200, .inl (upd lengths count.toNatClampNeg x_5))), (a_ranks, .inl (g 0, 100, .inl ranks)), (a_other, .inr (9, [.ref a_other_ranks, .ref a_other_starts, .ref a_other_lengths, .int other_count, .int other_filled])), (a_other_lengths, .inl (g 0, 200, .inl other_lengths)), (a_other_starts, .inl (g 0, 200, .inl other_starts)), (a_other_ranks, .inl (g 0, 100, .inl other_ranks))] := hD
                  refine lv_iconst (v := 0) hx hb dX7_addRunOf_110 (by decide) ?_
                  refine lv_istore (lv' := [(5, .int 0), (4, .int x_6), (3, .int x_5), (0, .ref a_this), (1, .ref a_other), (2, .int run)]) hx hb dX7_addRunOf_111 hl (by decide) rfl (fun ls hl => ?_)
                  refine W_abs (fun QM hQM => ?_)
                  have EX113_147 : ∀ (ranks_22 : Nat → Int32) (H : Heap) (locs : List Loc), (wx_X7_addRunOf_113_147 count filled starts lengths Q x_5 x_17) ranks_22 → va_P (dC, dI) vwCl [(a_this, .inr (9, [.ref a_ranks, .ref a_starts, .ref a_lengths, .int x_17, .int filled])), (a_starts, .inl (g 0, 200, .inl (upd starts count.toNatClampNeg filled))), (a_lengths, .inl (g 0, 200, .inl (upd lengths count.toNatClampNeg x_5))), (a_ranks, .inl (g 0, 100, .inl ranks_22)), (a_other, .inr (9, [.ref a_other_ranks, .ref a_other_starts, .ref a_other_lengths, .int other_count, .int other_filled])), (a_other_lengths, .inl (g 0, 200, .inl other_lengths)), (a_other_starts, .inl (g 0, 200, .inl other_starts)), (a_other_ranks, .inl (g 0, 100, .inl other_ranks))] H → va_D A [(a_this, .inr (9, [.ref a_ranks, .ref a_starts, .ref a_lengths, .int x_17, .int filled])), (a_starts, .inl (g 0, 200, .inl (upd starts count.toNatClampNeg filled))), (a_lengths, .inl (g 0, 200, .inl (upd lengths count.toNatClampNeg x_5))), (a_ranks, .inl (g 0, 100, .inl ranks_22)), (a_other, .inr (9, [.ref a_other_ranks, .ref a_other_starts, .ref a_other_lengths, .int other_count, .int other_filled])), (a_other_lengths, .inl (g 0, 200, .inl other_lengths)), (a_other_starts, .inl (g 0, 200, .inl other_starts)), (a_other_ranks, .inl (g 0, 100, .inl other_ranks))] → va_S A s.heap H locs → ∀ (ls : Array Slot), lv_has ls 6 [(0, .ref a_this), (3, .int x_5)] → W p l e (headSpec wqX7_addRunOf ({ frames := 0, cells := 0, slots := 0, locals := 0 })).room s m ([.ref a_this, .ref a_other, .int run] : List Value).toArray below meth c H locs 0 0 QM (F0 m 147 ls []) := by
                    intro ranks_22 H locs hw hP hD hS ls hl
                    refine lv_aload_n hx hb dX7_addRunOf_147 rfl (lv_at hl 0 rfl) ?_
                    refine lv_dup hx hb dX7_addRunOf_148 rfl ?_
                    refine va_get (D := (dC, dI)) (ci := 9) (v := .int filled) (C := RX7) (T := TX7) (N := 5) hx hb hts hiX7 hown hK hP 0 rfl rfl 4 (by decide) hf25 (fun _ h9 => h9) rfl dX7_addRunOf_149 ?_
                    refine lv_iload_n hx hb dX7_addRunOf_152 rfl (lv_at hl 1 rfl) ?_
                    refine lv_iadd hx hb dX7_addRunOf_153 ?_
                    refine lv_topi (fun x_23 ex_23 => ?_)
                    have hw := hw x_23 ex_23
                    refine va_put (D := (dC, dI)) (ci := 9) (v := .int x_23) (ty := .int) (C := RX7) (T := TX7) (N := 5) hx hb hts hiX7 tyX7 tyX7_ok nmX7 hown hK hP hD hS 0 rfl rfl 4 (by decide) hf25 (fun _ h9 => h9) rfl (by decide +kernel) rfl rfl (Nat.le_of_ble_eq_true rfl) dX7_addRunOf_154 (fun H_24 L_25 hP hD hS => ?_)
                    have hP : va_P (dC, dI) vwCl [(a_this, .inr (9, [.ref a_ranks, .ref a_starts, .ref a_lengths, .int x_17, .int x_23])), (a_starts, .inl (g 0, 200, .inl (upd starts count.toNatClampNeg filled))), (a_lengths, .inl (g 0, 200, .inl (upd lengths count.toNatClampNeg x_5))), (a_ranks, .inl (g 0, 100, .inl ranks_22)), (a_other, .inr (9, [.ref a_other_ranks, .ref a_other_starts, .ref a_other_lengths, .int other_count, .int other_filled])), (a_other_lengths, .inl (g 0, 200, .inl other_lengths)), (a_other_starts, .inl (g 0, 200, .inl other_starts)), (a_other_ranks, .inl (g 0, 100, .inl other_ranks))] H_24 := hP
                    have hD : va_D A [(a_this, .inr (9, [.ref a_ranks, .ref a_starts, .ref a_lengths, .int x_17, .int x_23])), (a_starts, .inl (g 0, 200, .inl (upd starts count.toNatClampNeg filled))), (a_lengths, .inl (g 0, 200, .inl (upd lengths count.toNatClampNeg x_5))), (a_ranks, .inl (g 0, 100, .inl ranks_22)), (a_other, .inr (9, [.ref a_other_ranks, .ref a_other_starts, .ref a_other_lengths, .int other_count, .int other_filled])), (a_other_lengths, .inl (g 0, 200, .inl other_lengths)), (a_other_starts, .inl (g 0, 200, .inl other_starts)), (a_other_ranks, .inl (g 0, 100, .inl other_ranks))] := hD
                    subst hQM
                    have hP9 := hP.sub (ws' := [(a_this, .inr (9, [.ref a_ranks, .ref a_starts, .ref a_lengths, .int x_17, .int x_23])), (a_starts, .inl (g 0, 200, .inl (upd starts count.toNatClampNeg filled))), (a_lengths, .inl (g 0, 200, .inl (upd lengths count.toNatClampNeg x_5))), (a_ranks, .inl (g 0, 100, .inl ranks_22)), (a_other, .inr (9, [.ref a_other_ranks, .ref a_other_starts, .ref a_other_lengths, .int other_count, .int other_filled])), (a_other_lengths, .inl (g 0, 200, .inl other_lengths)), (a_other_starts, .inl (g 0, 200, .inl other_starts)), (a_other_ranks, .inl (g 0, 100, .inl other_ranks))]) [0, 1, 2, 3, 4, 5, 6, 7] rfl
                    have hD9 := hD.sub (ws' := [(a_this, .inr (9, [.ref a_ranks, .ref a_starts, .ref a_lengths, .int x_17, .int x_23])), (a_starts, .inl (g 0, 200, .inl (upd starts count.toNatClampNeg filled))), (a_lengths, .inl (g 0, 200, .inl (upd lengths count.toNatClampNeg x_5))), (a_ranks, .inl (g 0, 100, .inl ranks_22)), (a_other, .inr (9, [.ref a_other_ranks, .ref a_other_starts, .ref a_other_lengths, .int other_count, .int other_filled])), (a_other_lengths, .inl (g 0, 200, .inl other_lengths)), (a_other_starts, .inl (g 0, 200, .inl other_starts)), (a_other_ranks, .inl (g 0, 100, .inl other_ranks))]) [0, 1, 2, 3, 4, 5, 6, 7] (by decide) rfl
                    exact W.vret hx hb hr (fun t ht hW => ⟨⟨(x_17, x_23, (upd starts count.toNatClampNeg filled), (upd lengths count.toNatClampNeg x_5), ranks_22, ()), rfl, hw, ⟨P_at ht hP9, hD9⟩⟩, hS.F ht⟩) hS.2.2 dX7_addRunOf_157
                  have LOOP113 : ∀ (n113 : Nat) (v5_20 : Int32) (ranks_21 : Nat → Int32) (H : Heap) (locs : List Loc), wl_X7_addRunOf_113 filled other_ranks x_5 x_6 (wx_X7_addRunOf_113_147 count filled starts lengths Q x_5 x_17) n113 v5_20 ranks_21 → va_P (dC, dI) vwCl [(a_this, .inr (9, [.ref a_ranks, .ref a_starts, .ref a_lengths, .int x_17, .int filled])), (a_starts, .inl (g 0, 200, .inl (upd starts count.toNatClampNeg filled))), (a_lengths, .inl (g 0, 200, .inl (upd lengths count.toNatClampNeg x_5))), (a_ranks, .inl (g 0, 100, .inl ranks_21)), (a_other, .inr (9, [.ref a_other_ranks, .ref a_other_starts, .ref a_other_lengths, .int other_count, .int other_filled])), (a_other_lengths, .inl (g 0, 200, .inl other_lengths)), (a_other_starts, .inl (g 0, 200, .inl other_starts)), (a_other_ranks, .inl (g 0, 100, .inl other_ranks))] H → va_D A [(a_this, .inr (9, [.ref a_ranks, .ref a_starts, .ref a_lengths, .int x_17, .int filled])), (a_starts, .inl (g 0, 200, .inl (upd starts count.toNatClampNeg filled))), (a_lengths, .inl (g 0, 200, .inl (upd lengths count.toNatClampNeg x_5))), (a_ranks, .inl (g 0, 100, .inl ranks_21)), (a_other, .inr (9, [.ref a_other_ranks, .ref a_other_starts, .ref a_other_lengths, .int other_count, .int other_filled])), (a_other_lengths, .inl (g 0, 200, .inl other_lengths)), (a_other_starts, .inl (g 0, 200, .inl other_starts)), (a_other_ranks, .inl (g 0, 100, .inl other_ranks))] → va_S A s.heap H locs → ∀ (ls : Array Slot), lv_has ls 6 [(0, .ref a_this), (1, .ref a_other), (3, .int x_5), (4, .int x_6), (5, .int v5_20)] → W p l e (headSpec wqX7_addRunOf ({ frames := 0, cells := 0, slots := 0, locals := 0 })).room s m ([.ref a_this, .ref a_other, .int run] : List Value).toArray below meth c H locs 0 0 QM (F0 m 113 ls []) := by
                    intro n113
                    induction n113 with
                    | zero =>
                      intro v5_20 ranks_21 H locs hw hP hD hS ls hl
                      exact False.elim hw
                    | succ n113 ih113 =>
                      intro v5_20 ranks_21 H locs hw hP hD hS ls hl
                      rw [wl_X7_addRunOf_113_s] at hw
                      refine lv_iload hx hb dX7_addRunOf_113 (lv_at hl 4 rfl) ?_
                      refine lv_iload_n hx hb dX7_addRunOf_115 rfl (lv_at hl 2 rfl) ?_
                      refine lv_icmp_ge (tgt := 147) hx hb dX7_addRunOf_116 (by decide) (fun c_26 => ?_) (fun c_26 => ?_)
                      · have hw := hw.1 c_26
                        exact EX113_147 ranks_21 _ _ hw (hP.sub [0, 1, 2, 3, 4, 5, 6, 7] rfl) (hD.sub [0, 1, 2, 3, 4, 5, 6, 7] (by decide) rfl) hS _ (lv_sub hl [0, 2] rfl)
                      · have hw := hw.2 c_26
                        refine lv_aload_n hx hb dX7_addRunOf_119 rfl (lv_at hl 0 rfl) ?_
                        refine va_get (D := (dC, dI)) (ci := 9) (v := .ref a_ranks) (C := RX7) (T := TX7) (N := 5) hx hb hts hiX7 hown hK hP 0 rfl rfl 0 (by decide) hf9 (fun _ h9 => h9) rfl dX7_addRunOf_120 ?_
                        refine lv_aload_n hx hb dX7_addRunOf_123 rfl (lv_at hl 0 rfl) ?_
                        refine va_get (D := (dC, dI)) (ci := 9) (v := .int filled) (C := RX7) (T := TX7) (N := 5) hx hb hts hiX7 hown hK hP 0 rfl rfl 4 (by decide) hf25 (fun _ h9 => h9) rfl dX7_addRunOf_124 ?_
                        refine lv_iload hx hb dX7_addRunOf_127 (lv_at hl 4 rfl) ?_
                        refine lv_iadd hx hb dX7_addRunOf_129 ?_
                        refine lv_topi (fun x_27 ex_27 => ?_)
                        have hw := hw x_27 ex_27
                        refine lv_aload_n hx hb dX7_addRunOf_130 rfl (lv_at hl 1 rfl) ?_
                        refine va_get (D := (dC, dI)) (ci := 9) (v := .ref a_other_ranks) (C := RX7) (T := TX7) (N := 5) hx hb hts hiX7 hown hK hP 4 rfl rfl 0 (by decide) hf9 (fun _ h9 => h9) rfl dX7_addRunOf_131 ?_
                        refine lv_iload hx hb dX7_addRunOf_134 (lv_at hl 3 rfl) ?_
                        refine lv_iload hx hb dX7_addRunOf_136 (lv_at hl 4 rfl) ?_
                        refine lv_iadd hx hb dX7_addRunOf_138 ?_
                        refine lv_topi (fun x_28 ex_28 => ?_)
                        have hw := hw x_28 ex_28
                        refine va_iald hx hb hK hP 7 0 rfl rfl hw.1 dX7_addRunOf_139 ?_
                        have hw := hw.2
                        refine lv_topi (fun x_29 ex_29 => ?_)
                        have hw := hw x_29 ex_29
                        refine va_iast hx hb hK hP hD hS 3 0 rfl rfl hw.1 dX7_addRunOf_140 (fun H_30 L_31 hP hD hS => ?_)
                        have hw := hw.2
                        have hP : va_P (dC, dI) vwCl [(a_this, .inr (9, [.ref a_ranks, .ref a_starts, .ref a_lengths, .int x_17, .int filled])), (a_starts, .inl (g 0, 200, .inl (upd starts count.toNatClampNeg filled))), (a_lengths, .inl (g 0, 200, .inl (upd lengths count.toNatClampNeg x_5))), (a_ranks, .inl (g 0, 100, .inl (upd ranks_21 x_27.toNatClampNeg x_29))), (a_other, .inr (9, [.ref a_other_ranks, .ref a_other_starts, .ref a_other_lengths, .int other_count, .int other_filled])), (a_other_lengths, .inl (g 0, 200, .inl other_lengths)), (a_other_starts, .inl (g 0, 200, .inl other_starts)), (a_other_ranks, .inl (g 0, 100, .inl other_ranks))] H_30 := hP
                        have hD : va_D A [(a_this, .inr (9, [.ref a_ranks, .ref a_starts, .ref a_lengths, .int x_17, .int filled])), (a_starts, .inl (g 0, 200, .inl (upd starts count.toNatClampNeg filled))), (a_lengths, .inl (g 0, 200, .inl (upd lengths count.toNatClampNeg x_5))), (a_ranks, .inl (g 0, 100, .inl (upd ranks_21 x_27.toNatClampNeg x_29))), (a_other, .inr (9, [.ref a_other_ranks, .ref a_other_starts, .ref a_other_lengths, .int other_count, .int other_filled])), (a_other_lengths, .inl (g 0, 200, .inl other_lengths)), (a_other_starts, .inl (g 0, 200, .inl other_starts)), (a_other_ranks, .inl (g 0, 100, .inl other_ranks))] := hD
                        obtain ⟨x_32, ex_32⟩ : ∃ y : Int32, y = v5_20 + 1 := ⟨_, rfl⟩
                        have hw := hw x_32 ex_32
                        refine lv_iinc (v := x_32) (lv' := [(5, .int x_32), (0, .ref a_this), (1, .ref a_other), (3, .int x_5), (4, .int x_6)]) hx hb dX7_addRunOf_141 hl (k := 4) rfl (by rw [ex_32]; rfl) (by decide) rfl (fun ls hl => ?_)
                        refine lv_goto (tgt := 113) hx hb dX7_addRunOf_144 (by decide) ?_
                        exact ih113 x_32 (upd ranks_21 x_27.toNatClampNeg x_29) _ _ hw (hP.sub [0, 1, 2, 3, 4, 5, 6, 7] rfl) (hD.sub [0, 1, 2, 3, 4, 5, 6, 7] (by decide) rfl) hS _ (lv_sub hl [1, 2, 3, 4, 0] rfl)
                  obtain ⟨n113, hw⟩ := hw
                  exact LOOP113 n113 0 ranks _ _ hw (hP.sub [0, 1, 2, 3, 4, 5, 6, 7] rfl) (hD.sub [0, 1, 2, 3, 4, 5, 6, 7] (by decide) rfl) hS _ (lv_sub hl [3, 4, 2, 1, 0] rfl)
                · have hw := hw.2 c_12
                  have hP9 := hP.sub (ws' := [(a_this, .inr (9, [.ref a_ranks, .ref a_starts, .ref a_lengths, .int count, .int filled])), (a_starts, .inl (g 0, 200, .inl starts)), (a_lengths, .inl (g 0, 200, .inl lengths)), (a_ranks, .inl (g 0, 100, .inl ranks)), (a_other, .inr (9, [.ref a_other_ranks, .ref a_other_starts, .ref a_other_lengths, .int other_count, .int other_filled])), (a_other_lengths, .inl (g 0, 200, .inl other_lengths)), (a_other_starts, .inl (g 0, 200, .inl other_starts)), (a_other_ranks, .inl (g 0, 100, .inl other_ranks))]) [0, 1, 2, 3, 4, 5, 6, 7] rfl
                  have hD9 := hD.sub (ws' := [(a_this, .inr (9, [.ref a_ranks, .ref a_starts, .ref a_lengths, .int count, .int filled])), (a_starts, .inl (g 0, 200, .inl starts)), (a_lengths, .inl (g 0, 200, .inl lengths)), (a_ranks, .inl (g 0, 100, .inl ranks)), (a_other, .inr (9, [.ref a_other_ranks, .ref a_other_starts, .ref a_other_lengths, .int other_count, .int other_filled])), (a_other_lengths, .inl (g 0, 200, .inl other_lengths)), (a_other_starts, .inl (g 0, 200, .inl other_starts)), (a_other_ranks, .inl (g 0, 100, .inl other_ranks))]) [0, 1, 2, 3, 4, 5, 6, 7] (by decide) rfl
                  exact W.vret hx hb hr (fun t ht hW => ⟨⟨(count, filled, starts, lengths, ranks, ()), rfl, hw, ⟨P_at ht hP9, hD9⟩⟩, hS.F ht⟩) hS.2.2 dX7_addRunOf_76
        · have hw := hw.2 c_4
          have hP9 := hP.sub (ws' := [(a_this, .inr (9, [.ref a_ranks, .ref a_starts, .ref a_lengths, .int count, .int filled])), (a_starts, .inl (g 0, 200, .inl starts)), (a_lengths, .inl (g 0, 200, .inl lengths)), (a_ranks, .inl (g 0, 100, .inl ranks)), (a_other, .inr (9, [.ref a_other_ranks, .ref a_other_starts, .ref a_other_lengths, .int other_count, .int other_filled])), (a_other_lengths, .inl (g 0, 200, .inl other_lengths)), (a_other_starts, .inl (g 0, 200, .inl other_starts)), (a_other_ranks, .inl (g 0, 100, .inl other_ranks))]) [0, 1, 2, 3, 4, 5, 6, 7] rfl
          have hD9 := hD.sub (ws' := [(a_this, .inr (9, [.ref a_ranks, .ref a_starts, .ref a_lengths, .int count, .int filled])), (a_starts, .inl (g 0, 200, .inl starts)), (a_lengths, .inl (g 0, 200, .inl lengths)), (a_ranks, .inl (g 0, 100, .inl ranks)), (a_other, .inr (9, [.ref a_other_ranks, .ref a_other_starts, .ref a_other_lengths, .int other_count, .int other_filled])), (a_other_lengths, .inl (g 0, 200, .inl other_lengths)), (a_other_starts, .inl (g 0, 200, .inl other_starts)), (a_other_ranks, .inl (g 0, 100, .inl other_ranks))]) [0, 1, 2, 3, 4, 5, 6, 7] (by decide) rfl
          exact W.vret hx hb hr (fun t ht hW => ⟨⟨(count, filled, starts, lengths, ranks, ()), rfl, hw, ⟨P_at ht hP9, hD9⟩⟩, hS.F ht⟩) hS.2.2 dX7_addRunOf_28
theorem dX7_lengthOf_0 : decode cX7_lengthOf 0 = .ok (.iload_n 1, 1) := by decide +kernel
theorem dX7_lengthOf_1 : decode cX7_lengthOf 1 = .ok (.ifCond .lt 27, 3) := by decide +kernel
theorem dX7_lengthOf_28 : decode cX7_lengthOf 28 = .ok (.iconst 0, 1) := by decide +kernel
theorem dX7_lengthOf_29 : decode cX7_lengthOf 29 = .ok (.ireturn, 1) := by decide +kernel
theorem dX7_lengthOf_4 : decode cX7_lengthOf 4 = .ok (.iload_n 1, 1) := by decide +kernel
theorem dX7_lengthOf_5 : decode cX7_lengthOf 5 = .ok (.aload_n 0, 1) := by decide +kernel
theorem dX7_lengthOf_6 : decode cX7_lengthOf 6 = .ok (.getfield 21, 3) := by decide +kernel
theorem dX7_lengthOf_9 : decode cX7_lengthOf 9 = .ok (.if_icmp .ge 19, 3) := by decide +kernel
theorem dX7_lengthOf_12 : decode cX7_lengthOf 12 = .ok (.iload_n 1, 1) := by decide +kernel
theorem dX7_lengthOf_13 : decode cX7_lengthOf 13 = .ok (.sipush 200, 3) := by decide +kernel
theorem dX7_lengthOf_16 : decode cX7_lengthOf 16 = .ok (.if_icmp .ge 12, 3) := by decide +kernel
theorem dX7_lengthOf_19 : decode cX7_lengthOf 19 = .ok (.aload_n 0, 1) := by decide +kernel
theorem dX7_lengthOf_20 : decode cX7_lengthOf 20 = .ok (.getfield 18, 3) := by decide +kernel
theorem dX7_lengthOf_23 : decode cX7_lengthOf 23 = .ok (.iload_n 1, 1) := by decide +kernel
theorem dX7_lengthOf_24 : decode cX7_lengthOf 24 = .ok (.iaload, 1) := by decide +kernel
theorem dX7_lengthOf_25 : decode cX7_lengthOf 25 = .ok (.goto 4, 3) := by decide +kernel

set_option maxHeartbeats 8000000 in
set_option maxRecDepth 100000 in
theorem c_X7_lengthOf (l : Launch) (dC : Nat → ClassId) (dI : Nat → Nat → Nat) (g : Nat → ClassId) (Wd : va_W) (a_this : Nat) (a_ranks : Nat) (a_starts : Nat) (a_lengths : Nat) (count : Int32) (filled : Int32) (lengths : Nat → Int32) (run : Int32) (k_this : Nat) (w_this : Wd[k_this]? = some (a_this, .inr (9, [.ref a_ranks, .ref a_starts, .ref a_lengths, .int count, .int filled]))) (k_lengths : Nat) (w_lengths : Wd[k_lengths]? = some (a_lengths, .inl (g 0, 200, .inl lengths))) (Q : Int32 → Prop) (hw : wp_X7_lengthOf count lengths run Q) (sz : Nat) : Met l yX7_lengthOf wqX7_lengthOf ({ frames := 0, cells := 0, slots := 0, locals := 0 }) (va_Pc [.ref a_this, .int run] (PG (dC, dI) g Wd sz)) (va_Qi (fun (r : Int32) (u : Unit) => Q r) (fun (u : Unit) t9 => va_P (dC, dI) vwCl Wd t9.heap) (va_A Wd sz)) 0 0 (va_A Wd sz) := by
  refine Met.ofW (cc := cX7_lengthOf) (maxL := 2) (ret := (some .int)) (by decide) rfl ?_
  intro p e s m args below meth c s₁ B hml hv
  obtain ⟨rfl, hsz, hP, hK, hD0, hG⟩ := hv
  have hx := B.exec
  have hb := B.bytes
  have hr := B.returns
  have hts := atoms_spec (ws := wqX7_lengthOf) B.pre
  have hown : s.vm.findClass RX7 = some m.cls := findClass_of_methodNamed B.named
  have hlocks := B.notSynchronized
  subst hsz
  have hD := hD0.self (sz := s.heap.size)
  generalize hAe : va_A Wd s.heap.size = A at hD hG ⊢
  have hA : ∀ q : Nat, s.heap.size ≤ q → A q := fun q h => by rw [← hAe]; exact Or.inr h
  have hS : va_S A s.heap s.heap [] := va_S.rf
  have hl := lv_entry ([.ref a_this, .int run]) (n := 2) (Nat.le_of_ble_eq_true rfl)
  rw [lg_entry_eq]
  generalize (lg_sl ([.ref a_this, .int run]) ++ List.replicate (2 - (lg_sl ([.ref a_this, .int run])).length) Slot.unset).toArray = ls at hl ⊢
  have hl : lv_has ls 2 [(0, .ref a_this), (1, .int run)] := hl
  unfold wp_X7_lengthOf at hw
  have hf21 := hts (Cond.fieldLink RX7 21 "RunmergeOffice$RunRow" "count" "I") (aw_l aw_1_144)
  have hiX7 : ∀ w ∈ u_ws RX7 TX7 5, w ∈ wqX7_lengthOf := fun w h => aw_l (aw_wsX70 w h)
  have hf18 := hts (Cond.fieldLink RX7 18 "RunmergeOffice$RunRow" "lengths" "[I") (aw_l aw_1_142)
  refine lv_iload_n hx hb dX7_lengthOf_0 rfl (lv_at hl 1 rfl) ?_
  refine lv_if_lt (tgt := 28) hx hb dX7_lengthOf_1 (by decide) (fun c_1 => ?_) (fun c_1 => ?_)
  · have hw := hw.1 c_1
    refine lv_iconst (v := 0) hx hb dX7_lengthOf_28 (by decide) ?_
    exact W.iret (v := 0) hx hb hr (fun t ht hW => ⟨⟨0, (), rfl, hw, P_at ht hP⟩, hS.F ht⟩) hS.2.2 dX7_lengthOf_29
  · have hw := hw.2 c_1
    refine lv_iload_n hx hb dX7_lengthOf_4 rfl (lv_at hl 1 rfl) ?_
    refine lv_aload_n hx hb dX7_lengthOf_5 rfl (lv_at hl 0 rfl) ?_
    refine va_get (D := (dC, dI)) (ci := 9) (v := .int count) (C := RX7) (T := TX7) (N := 5) hx hb hts hiX7 hown hK hP k_this w_this rfl 3 (by decide) hf21 (fun _ h9 => h9) rfl dX7_lengthOf_6 ?_
    refine lv_icmp_ge (tgt := 28) hx hb dX7_lengthOf_9 (by decide) (fun c_2 => ?_) (fun c_2 => ?_)
    · have hw := hw.1 c_2
      refine lv_iconst (v := 0) hx hb dX7_lengthOf_28 (by decide) ?_
      exact W.iret (v := 0) hx hb hr (fun t ht hW => ⟨⟨0, (), rfl, hw, P_at ht hP⟩, hS.F ht⟩) hS.2.2 dX7_lengthOf_29
    · have hw := hw.2 c_2
      refine lv_iload_n hx hb dX7_lengthOf_12 rfl (lv_at hl 1 rfl) ?_
      refine lv_sipush (v := 200) hx hb dX7_lengthOf_13 (by decide) ?_
      refine lv_icmp_ge (tgt := 28) hx hb dX7_lengthOf_16 (by decide) (fun c_3 => ?_) (fun c_3 => ?_)
      · have hw := hw.1 c_3
        refine lv_iconst (v := 0) hx hb dX7_lengthOf_28 (by decide) ?_
        exact W.iret (v := 0) hx hb hr (fun t ht hW => ⟨⟨0, (), rfl, hw, P_at ht hP⟩, hS.F ht⟩) hS.2.2 dX7_lengthOf_29
      · have hw := hw.2 c_3
        refine lv_aload_n hx hb dX7_lengthOf_19 rfl (lv_at hl 0 rfl) ?_
        refine va_get (D := (dC, dI)) (ci := 9) (v := .ref a_lengths) (C := RX7) (T := TX7) (N := 5) hx hb hts hiX7 hown hK hP k_this w_this rfl 2 (by decide) hf18 (fun _ h9 => h9) rfl dX7_lengthOf_20 ?_
        refine lv_iload_n hx hb dX7_lengthOf_23 rfl (lv_at hl 1 rfl) ?_
        refine va_iald hx hb hK hP k_lengths 0 w_lengths rfl hw.1 dX7_lengthOf_24 ?_
        have hw := hw.2
        refine lv_topi (fun x_4 ex_4 => ?_)
        have hw := hw x_4 ex_4
        refine lv_goto (tgt := 29) hx hb dX7_lengthOf_25 (by decide) ?_
        exact W.iret (v := x_4) hx hb hr (fun t ht hW => ⟨⟨x_4, (), rfl, hw, P_at ht hP⟩, hS.F ht⟩) hS.2.2 dX7_lengthOf_29
theorem dX7_rankAt_0 : decode cX7_rankAt 0 = .ok (.iload_n 1, 1) := by decide +kernel
theorem dX7_rankAt_1 : decode cX7_rankAt 1 = .ok (.ifCond .lt 32, 3) := by decide +kernel
theorem dX7_rankAt_33 : decode cX7_rankAt 33 = .ok (.iconst 0, 1) := by decide +kernel
theorem dX7_rankAt_34 : decode cX7_rankAt 34 = .ok (.ireturn, 1) := by decide +kernel
theorem dX7_rankAt_4 : decode cX7_rankAt 4 = .ok (.iload_n 1, 1) := by decide +kernel
theorem dX7_rankAt_5 : decode cX7_rankAt 5 = .ok (.aload_n 0, 1) := by decide +kernel
theorem dX7_rankAt_6 : decode cX7_rankAt 6 = .ok (.getfield 21, 3) := by decide +kernel
theorem dX7_rankAt_9 : decode cX7_rankAt 9 = .ok (.if_icmp .ge 24, 3) := by decide +kernel
theorem dX7_rankAt_12 : decode cX7_rankAt 12 = .ok (.iload_n 1, 1) := by decide +kernel
theorem dX7_rankAt_13 : decode cX7_rankAt 13 = .ok (.sipush 200, 3) := by decide +kernel
theorem dX7_rankAt_16 : decode cX7_rankAt 16 = .ok (.if_icmp .ge 17, 3) := by decide +kernel
theorem dX7_rankAt_19 : decode cX7_rankAt 19 = .ok (.iload_n 2, 1) := by decide +kernel
theorem dX7_rankAt_20 : decode cX7_rankAt 20 = .ok (.ifCond .lt 13, 3) := by decide +kernel
theorem dX7_rankAt_23 : decode cX7_rankAt 23 = .ok (.iload_n 2, 1) := by decide +kernel
theorem dX7_rankAt_24 : decode cX7_rankAt 24 = .ok (.aload_n 0, 1) := by decide +kernel
theorem dX7_rankAt_25 : decode cX7_rankAt 25 = .ok (.getfield 18, 3) := by decide +kernel
theorem dX7_rankAt_28 : decode cX7_rankAt 28 = .ok (.iload_n 1, 1) := by decide +kernel
theorem dX7_rankAt_29 : decode cX7_rankAt 29 = .ok (.iaload, 1) := by decide +kernel
theorem dX7_rankAt_30 : decode cX7_rankAt 30 = .ok (.if_icmp .lt 5, 3) := by decide +kernel
theorem dX7_rankAt_35 : decode cX7_rankAt 35 = .ok (.aload_n 0, 1) := by decide +kernel
theorem dX7_rankAt_36 : decode cX7_rankAt 36 = .ok (.getfield 15, 3) := by decide +kernel
theorem dX7_rankAt_39 : decode cX7_rankAt 39 = .ok (.iload_n 1, 1) := by decide +kernel
theorem dX7_rankAt_40 : decode cX7_rankAt 40 = .ok (.iaload, 1) := by decide +kernel
theorem dX7_rankAt_41 : decode cX7_rankAt 41 = .ok (.iload_n 2, 1) := by decide +kernel
theorem dX7_rankAt_42 : decode cX7_rankAt 42 = .ok (.iadd, 1) := by decide +kernel
theorem dX7_rankAt_43 : decode cX7_rankAt 43 = .ok (.istore_n 3, 1) := by decide +kernel
theorem dX7_rankAt_44 : decode cX7_rankAt 44 = .ok (.iload_n 3, 1) := by decide +kernel
theorem dX7_rankAt_45 : decode cX7_rankAt 45 = .ok (.ifCond .lt 18, 3) := by decide +kernel
theorem dX7_rankAt_63 : decode cX7_rankAt 63 = .ok (.iconst 0, 1) := by decide +kernel
theorem dX7_rankAt_64 : decode cX7_rankAt 64 = .ok (.ireturn, 1) := by decide +kernel
theorem dX7_rankAt_48 : decode cX7_rankAt 48 = .ok (.iload_n 3, 1) := by decide +kernel
theorem dX7_rankAt_49 : decode cX7_rankAt 49 = .ok (.bipush 100, 2) := by decide +kernel
theorem dX7_rankAt_51 : decode cX7_rankAt 51 = .ok (.if_icmp .ge 12, 3) := by decide +kernel
theorem dX7_rankAt_54 : decode cX7_rankAt 54 = .ok (.aload_n 0, 1) := by decide +kernel
theorem dX7_rankAt_55 : decode cX7_rankAt 55 = .ok (.getfield 9, 3) := by decide +kernel
theorem dX7_rankAt_58 : decode cX7_rankAt 58 = .ok (.iload_n 3, 1) := by decide +kernel
theorem dX7_rankAt_59 : decode cX7_rankAt 59 = .ok (.iaload, 1) := by decide +kernel
theorem dX7_rankAt_60 : decode cX7_rankAt 60 = .ok (.goto 4, 3) := by decide +kernel

set_option maxHeartbeats 8000000 in
set_option maxRecDepth 100000 in
theorem c_X7_rankAt (l : Launch) (dC : Nat → ClassId) (dI : Nat → Nat → Nat) (g : Nat → ClassId) (Wd : va_W) (a_this : Nat) (a_ranks : Nat) (a_starts : Nat) (a_lengths : Nat) (count : Int32) (filled : Int32) (lengths : Nat → Int32) (starts : Nat → Int32) (ranks : Nat → Int32) (run : Int32) (place : Int32) (k_this : Nat) (w_this : Wd[k_this]? = some (a_this, .inr (9, [.ref a_ranks, .ref a_starts, .ref a_lengths, .int count, .int filled]))) (k_lengths : Nat) (w_lengths : Wd[k_lengths]? = some (a_lengths, .inl (g 0, 200, .inl lengths))) (k_starts : Nat) (w_starts : Wd[k_starts]? = some (a_starts, .inl (g 0, 200, .inl starts))) (k_ranks : Nat) (w_ranks : Wd[k_ranks]? = some (a_ranks, .inl (g 0, 100, .inl ranks))) (Q : Int32 → Prop) (hw : wp_X7_rankAt count lengths starts ranks run place Q) (sz : Nat) : Met l yX7_rankAt wqX7_rankAt ({ frames := 0, cells := 0, slots := 0, locals := 0 }) (va_Pc [.ref a_this, .int run, .int place] (PG (dC, dI) g Wd sz)) (va_Qi (fun (r : Int32) (u : Unit) => Q r) (fun (u : Unit) t9 => va_P (dC, dI) vwCl Wd t9.heap) (va_A Wd sz)) 0 0 (va_A Wd sz) := by
  refine Met.ofW (cc := cX7_rankAt) (maxL := 4) (ret := (some .int)) (by decide) rfl ?_
  intro p e s m args below meth c s₁ B hml hv
  obtain ⟨rfl, hsz, hP, hK, hD0, hG⟩ := hv
  have hx := B.exec
  have hb := B.bytes
  have hr := B.returns
  have hts := atoms_spec (ws := wqX7_rankAt) B.pre
  have hown : s.vm.findClass RX7 = some m.cls := findClass_of_methodNamed B.named
  have hlocks := B.notSynchronized
  subst hsz
  have hD := hD0.self (sz := s.heap.size)
  generalize hAe : va_A Wd s.heap.size = A at hD hG ⊢
  have hA : ∀ q : Nat, s.heap.size ≤ q → A q := fun q h => by rw [← hAe]; exact Or.inr h
  have hS : va_S A s.heap s.heap [] := va_S.rf
  have hl := lv_entry ([.ref a_this, .int run, .int place]) (n := 4) (Nat.le_of_ble_eq_true rfl)
  rw [lg_entry_eq]
  generalize (lg_sl ([.ref a_this, .int run, .int place]) ++ List.replicate (4 - (lg_sl ([.ref a_this, .int run, .int place])).length) Slot.unset).toArray = ls at hl ⊢
  have hl : lv_has ls 4 [(0, .ref a_this), (1, .int run), (2, .int place)] := hl
  unfold wp_X7_rankAt at hw
  have hf21 := hts (Cond.fieldLink RX7 21 "RunmergeOffice$RunRow" "count" "I") (aw_l aw_1_144)
  have hiX7 : ∀ w ∈ u_ws RX7 TX7 5, w ∈ wqX7_rankAt := fun w h => aw_l (aw_wsX70 w h)
  have hf18 := hts (Cond.fieldLink RX7 18 "RunmergeOffice$RunRow" "lengths" "[I") (aw_l aw_1_142)
  have hf15 := hts (Cond.fieldLink RX7 15 "RunmergeOffice$RunRow" "starts" "[I") (aw_l aw_1_141)
  have hf9 := hts (Cond.fieldLink RX7 9 "RunmergeOffice$RunRow" "ranks" "[I") (aw_l aw_1_140)
  refine lv_iload_n hx hb dX7_rankAt_0 rfl (lv_at hl 1 rfl) ?_
  refine lv_if_lt (tgt := 33) hx hb dX7_rankAt_1 (by decide) (fun c_1 => ?_) (fun c_1 => ?_)
  · have hw := hw.1 c_1
    refine lv_iconst (v := 0) hx hb dX7_rankAt_33 (by decide) ?_
    exact W.iret (v := 0) hx hb hr (fun t ht hW => ⟨⟨0, (), rfl, hw, P_at ht hP⟩, hS.F ht⟩) hS.2.2 dX7_rankAt_34
  · have hw := hw.2 c_1
    refine lv_iload_n hx hb dX7_rankAt_4 rfl (lv_at hl 1 rfl) ?_
    refine lv_aload_n hx hb dX7_rankAt_5 rfl (lv_at hl 0 rfl) ?_
    refine va_get (D := (dC, dI)) (ci := 9) (v := .int count) (C := RX7) (T := TX7) (N := 5) hx hb hts hiX7 hown hK hP k_this w_this rfl 3 (by decide) hf21 (fun _ h9 => h9) rfl dX7_rankAt_6 ?_
    refine lv_icmp_ge (tgt := 33) hx hb dX7_rankAt_9 (by decide) (fun c_2 => ?_) (fun c_2 => ?_)
    · have hw := hw.1 c_2
      refine lv_iconst (v := 0) hx hb dX7_rankAt_33 (by decide) ?_
      exact W.iret (v := 0) hx hb hr (fun t ht hW => ⟨⟨0, (), rfl, hw, P_at ht hP⟩, hS.F ht⟩) hS.2.2 dX7_rankAt_34
    · have hw := hw.2 c_2
      refine lv_iload_n hx hb dX7_rankAt_12 rfl (lv_at hl 1 rfl) ?_
      refine lv_sipush (v := 200) hx hb dX7_rankAt_13 (by decide) ?_
      refine lv_icmp_ge (tgt := 33) hx hb dX7_rankAt_16 (by decide) (fun c_3 => ?_) (fun c_3 => ?_)
      · have hw := hw.1 c_3
        refine lv_iconst (v := 0) hx hb dX7_rankAt_33 (by decide) ?_
        exact W.iret (v := 0) hx hb hr (fun t ht hW => ⟨⟨0, (), rfl, hw, P_at ht hP⟩, hS.F ht⟩) hS.2.2 dX7_rankAt_34
      · have hw := hw.2 c_3
        refine lv_iload_n hx hb dX7_rankAt_19 rfl (lv_at hl 2 rfl) ?_
        refine lv_if_lt (tgt := 33) hx hb dX7_rankAt_20 (by decide) (fun c_4 => ?_) (fun c_4 => ?_)
        · have hw := hw.1 c_4
          refine lv_iconst (v := 0) hx hb dX7_rankAt_33 (by decide) ?_
          exact W.iret (v := 0) hx hb hr (fun t ht hW => ⟨⟨0, (), rfl, hw, P_at ht hP⟩, hS.F ht⟩) hS.2.2 dX7_rankAt_34
        · have hw := hw.2 c_4
          refine lv_iload_n hx hb dX7_rankAt_23 rfl (lv_at hl 2 rfl) ?_
          refine lv_aload_n hx hb dX7_rankAt_24 rfl (lv_at hl 0 rfl) ?_
          refine va_get (D := (dC, dI)) (ci := 9) (v := .ref a_lengths) (C := RX7) (T := TX7) (N := 5) hx hb hts hiX7 hown hK hP k_this w_this rfl 2 (by decide) hf18 (fun _ h9 => h9) rfl dX7_rankAt_25 ?_
          refine lv_iload_n hx hb dX7_rankAt_28 rfl (lv_at hl 1 rfl) ?_
          refine va_iald hx hb hK hP k_lengths 0 w_lengths rfl hw.1 dX7_rankAt_29 ?_
          have hw := hw.2
          refine lv_topi (fun x_5 ex_5 => ?_)
          have hw := hw x_5 ex_5
          refine lv_icmp_lt (tgt := 35) hx hb dX7_rankAt_30 (by decide) (fun c_6 => ?_) (fun c_6 => ?_)
          · have hw := hw.1 c_6
            refine lv_aload_n hx hb dX7_rankAt_35 rfl (lv_at hl 0 rfl) ?_
            refine va_get (D := (dC, dI)) (ci := 9) (v := .ref a_starts) (C := RX7) (T := TX7) (N := 5) hx hb hts hiX7 hown hK hP k_this w_this rfl 1 (by decide) hf15 (fun _ h9 => h9) rfl dX7_rankAt_36 ?_
            refine lv_iload_n hx hb dX7_rankAt_39 rfl (lv_at hl 1 rfl) ?_
            refine va_iald hx hb hK hP k_starts 0 w_starts rfl hw.1 dX7_rankAt_40 ?_
            have hw := hw.2
            refine lv_topi (fun x_7 ex_7 => ?_)
            have hw := hw x_7 ex_7
            refine lv_iload_n hx hb dX7_rankAt_41 rfl (lv_at hl 2 rfl) ?_
            refine lv_iadd hx hb dX7_rankAt_42 ?_
            refine lv_topi (fun x_8 ex_8 => ?_)
            have hw := hw x_8 ex_8
            refine lv_istore_n (lv' := [(3, .int x_8), (0, .ref a_this), (1, .int run), (2, .int place)]) hx hb dX7_rankAt_43 rfl hl (by decide) rfl (fun ls hl => ?_)
            refine lv_iload_n hx hb dX7_rankAt_44 rfl (lv_at hl 0 rfl) ?_
            refine lv_if_lt (tgt := 63) hx hb dX7_rankAt_45 (by decide) (fun c_9 => ?_) (fun c_9 => ?_)
            · have hw := hw.1 c_9
              refine lv_iconst (v := 0) hx hb dX7_rankAt_63 (by decide) ?_
              exact W.iret (v := 0) hx hb hr (fun t ht hW => ⟨⟨0, (), rfl, hw, P_at ht hP⟩, hS.F ht⟩) hS.2.2 dX7_rankAt_64
            · have hw := hw.2 c_9
              refine lv_iload_n hx hb dX7_rankAt_48 rfl (lv_at hl 0 rfl) ?_
              refine lv_bipush (v := 100) hx hb dX7_rankAt_49 (by decide) ?_
              refine lv_icmp_ge (tgt := 63) hx hb dX7_rankAt_51 (by decide) (fun c_10 => ?_) (fun c_10 => ?_)
              · have hw := hw.1 c_10
                refine lv_iconst (v := 0) hx hb dX7_rankAt_63 (by decide) ?_
                exact W.iret (v := 0) hx hb hr (fun t ht hW => ⟨⟨0, (), rfl, hw, P_at ht hP⟩, hS.F ht⟩) hS.2.2 dX7_rankAt_64
              · have hw := hw.2 c_10
                refine lv_aload_n hx hb dX7_rankAt_54 rfl (lv_at hl 1 rfl) ?_
                refine va_get (D := (dC, dI)) (ci := 9) (v := .ref a_ranks) (C := RX7) (T := TX7) (N := 5) hx hb hts hiX7 hown hK hP k_this w_this rfl 0 (by decide) hf9 (fun _ h9 => h9) rfl dX7_rankAt_55 ?_
                refine lv_iload_n hx hb dX7_rankAt_58 rfl (lv_at hl 0 rfl) ?_
                refine va_iald hx hb hK hP k_ranks 0 w_ranks rfl hw.1 dX7_rankAt_59 ?_
                have hw := hw.2
                refine lv_topi (fun x_11 ex_11 => ?_)
                have hw := hw x_11 ex_11
                refine lv_goto (tgt := 64) hx hb dX7_rankAt_60 (by decide) ?_
                exact W.iret (v := x_11) hx hb hr (fun t ht hW => ⟨⟨x_11, (), rfl, hw, P_at ht hP⟩, hS.F ht⟩) hS.2.2 dX7_rankAt_64
          · have hw := hw.2 c_6
            refine lv_iconst (v := 0) hx hb dX7_rankAt_33 (by decide) ?_
            exact W.iret (v := 0) hx hb hr (fun t ht hW => ⟨⟨0, (), rfl, hw, P_at ht hP⟩, hS.F ht⟩) hS.2.2 dX7_rankAt_34
theorem dX6_holdInOrder_0 : decode cX6_holdInOrder 0 = .ok (.aload_n 0, 1) := by decide +kernel
theorem dX6_holdInOrder_1 : decode cX6_holdInOrder 1 = .ok (.getfield 18, 3) := by decide +kernel
theorem dX6_holdInOrder_4 : decode cX6_holdInOrder 4 = .ok (.ifCond .lt 12, 3) := by decide +kernel
theorem dX6_holdInOrder_16 : decode cX6_holdInOrder 16 = .ok (.return_, 1) := by decide +kernel
theorem dX6_holdInOrder_7 : decode cX6_holdInOrder 7 = .ok (.aload_n 0, 1) := by decide +kernel
theorem dX6_holdInOrder_8 : decode cX6_holdInOrder 8 = .ok (.getfield 18, 3) := by decide +kernel
theorem dX6_holdInOrder_11 : decode cX6_holdInOrder 11 = .ok (.bipush 50, 2) := by decide +kernel
theorem dX6_holdInOrder_13 : decode cX6_holdInOrder 13 = .ok (.if_icmp .lt 4, 3) := by decide +kernel
theorem dX6_holdInOrder_17 : decode cX6_holdInOrder 17 = .ok (.aload_n 0, 1) := by decide +kernel
theorem dX6_holdInOrder_18 : decode cX6_holdInOrder 18 = .ok (.getfield 18, 3) := by decide +kernel
theorem dX6_holdInOrder_21 : decode cX6_holdInOrder 21 = .ok (.istore_n 2, 1) := by decide +kernel
theorem dX6_holdInOrder_58 : decode cX6_holdInOrder 58 = .ok (.aload_n 0, 1) := by decide +kernel
theorem dX6_holdInOrder_59 : decode cX6_holdInOrder 59 = .ok (.getfield 9, 3) := by decide +kernel
theorem dX6_holdInOrder_62 : decode cX6_holdInOrder 62 = .ok (.iload_n 2, 1) := by decide +kernel
theorem dX6_holdInOrder_63 : decode cX6_holdInOrder 63 = .ok (.iload_n 1, 1) := by decide +kernel
theorem dX6_holdInOrder_64 : decode cX6_holdInOrder 64 = .ok (.iastore, 1) := by decide +kernel
theorem dX6_holdInOrder_65 : decode cX6_holdInOrder 65 = .ok (.aload_n 0, 1) := by decide +kernel
theorem dX6_holdInOrder_66 : decode cX6_holdInOrder 66 = .ok (.dup, 1) := by decide +kernel
theorem dX6_holdInOrder_67 : decode cX6_holdInOrder 67 = .ok (.getfield 18, 3) := by decide +kernel
theorem dX6_holdInOrder_70 : decode cX6_holdInOrder 70 = .ok (.iconst 1, 1) := by decide +kernel
theorem dX6_holdInOrder_71 : decode cX6_holdInOrder 71 = .ok (.iadd, 1) := by decide +kernel
theorem dX6_holdInOrder_72 : decode cX6_holdInOrder 72 = .ok (.putfield 18, 3) := by decide +kernel
theorem dX6_holdInOrder_75 : decode cX6_holdInOrder 75 = .ok (.return_, 1) := by decide +kernel
theorem dX6_holdInOrder_22 : decode cX6_holdInOrder 22 = .ok (.iload_n 2, 1) := by decide +kernel
theorem dX6_holdInOrder_23 : decode cX6_holdInOrder 23 = .ok (.ifCond .le 35, 3) := by decide +kernel
theorem dX6_holdInOrder_26 : decode cX6_holdInOrder 26 = .ok (.aload_n 0, 1) := by decide +kernel
theorem dX6_holdInOrder_27 : decode cX6_holdInOrder 27 = .ok (.getfield 9, 3) := by decide +kernel
theorem dX6_holdInOrder_30 : decode cX6_holdInOrder 30 = .ok (.iload_n 2, 1) := by decide +kernel
theorem dX6_holdInOrder_31 : decode cX6_holdInOrder 31 = .ok (.iconst 1, 1) := by decide +kernel
theorem dX6_holdInOrder_32 : decode cX6_holdInOrder 32 = .ok (.isub, 1) := by decide +kernel
theorem dX6_holdInOrder_33 : decode cX6_holdInOrder 33 = .ok (.iaload, 1) := by decide +kernel
theorem dX6_holdInOrder_34 : decode cX6_holdInOrder 34 = .ok (.iload_n 1, 1) := by decide +kernel
theorem dX6_holdInOrder_35 : decode cX6_holdInOrder 35 = .ok (.if_icmp .le 23, 3) := by decide +kernel
theorem dX6_holdInOrder_38 : decode cX6_holdInOrder 38 = .ok (.aload_n 0, 1) := by decide +kernel
theorem dX6_holdInOrder_39 : decode cX6_holdInOrder 39 = .ok (.getfield 9, 3) := by decide +kernel
theorem dX6_holdInOrder_42 : decode cX6_holdInOrder 42 = .ok (.iload_n 2, 1) := by decide +kernel
theorem dX6_holdInOrder_43 : decode cX6_holdInOrder 43 = .ok (.aload_n 0, 1) := by decide +kernel
theorem dX6_holdInOrder_44 : decode cX6_holdInOrder 44 = .ok (.getfield 9, 3) := by decide +kernel
theorem dX6_holdInOrder_47 : decode cX6_holdInOrder 47 = .ok (.iload_n 2, 1) := by decide +kernel
theorem dX6_holdInOrder_48 : decode cX6_holdInOrder 48 = .ok (.iconst 1, 1) := by decide +kernel
theorem dX6_holdInOrder_49 : decode cX6_holdInOrder 49 = .ok (.isub, 1) := by decide +kernel
theorem dX6_holdInOrder_50 : decode cX6_holdInOrder 50 = .ok (.iaload, 1) := by decide +kernel
theorem dX6_holdInOrder_51 : decode cX6_holdInOrder 51 = .ok (.iastore, 1) := by decide +kernel
theorem dX6_holdInOrder_52 : decode cX6_holdInOrder 52 = .ok (.iinc 2 (-1), 3) := by decide +kernel
theorem dX6_holdInOrder_55 : decode cX6_holdInOrder 55 = .ok (.goto (-33), 3) := by decide +kernel
abbrev Wa_X6_holdInOrder (g : Nat → ClassId) (a_this : Nat) (a_memory : Nat) (a_runOf : Nat) (held : Int32) (memory : Nat → Int32) : va_W := [(a_this, .inr (8, [.ref a_memory, .ref a_runOf, .int held])), (a_memory, .inl (g 0, 50, .inl memory))]
abbrev Wb_X6_holdInOrder (g : Nat → ClassId) (a_this : Nat) (a_memory : Nat) (a_runOf : Nat) (u : Int32 × (Nat → Int32) × Unit) : va_W := [(a_this, .inr (8, [.ref a_memory, .ref a_runOf, .int u.1])), (a_memory, .inl (g 0, 50, .inl u.2.1))]
set_option maxHeartbeats 8000000 in
set_option maxRecDepth 100000 in
theorem c_X6_holdInOrder (l : Launch) (dC : Nat → ClassId) (dI : Nat → Nat → Nat) (g : Nat → ClassId) (a_this : Nat) (a_memory : Nat) (a_runOf : Nat) (held : Int32) (memory : Nat → Int32) (rank : Int32) (Q : Int32 → (Nat → Int32) → Prop) (hw : wp_X6_holdInOrder held memory rank Q) (sz : Nat) : Met l yX6_holdInOrder wqX6_holdInOrder ({ frames := 0, cells := 0, slots := 0, locals := 0 }) (va_Pc [.ref a_this, .int rank] (PG (dC, dI) g (Wa_X6_holdInOrder g a_this a_memory a_runOf held memory) sz)) (va_Qv (fun (u : Int32 × (Nat → Int32) × Unit) => Q u.1 u.2.1) (fun (u : Int32 × (Nat → Int32) × Unit) t9 => va_P (dC, dI) vwCl (Wb_X6_holdInOrder g a_this a_memory a_runOf u) t9.heap ∧ va_D (va_A (Wa_X6_holdInOrder g a_this a_memory a_runOf held memory) sz) (Wb_X6_holdInOrder g a_this a_memory a_runOf u)) (va_A (Wa_X6_holdInOrder g a_this a_memory a_runOf held memory) sz)) 0 0 (va_A (Wa_X6_holdInOrder g a_this a_memory a_runOf held memory) sz) := by
  refine Met.ofW (cc := cX6_holdInOrder) (maxL := 3) (ret := none) (by decide) rfl ?_
  intro p e s m args below meth c s₁ B hml hv
  obtain ⟨rfl, hsz, hP, hK, hD0, hG⟩ := hv
  have hx := B.exec
  have hb := B.bytes
  have hr := B.returns
  have hts := atoms_spec (ws := wqX6_holdInOrder) B.pre
  have hown : s.vm.findClass RX6 = some m.cls := findClass_of_methodNamed B.named
  have hlocks := B.notSynchronized
  subst hsz
  have hD := hD0.self (sz := s.heap.size)
  generalize hAe : va_A (Wa_X6_holdInOrder g a_this a_memory a_runOf held memory) s.heap.size = A at hD hG ⊢
  have hA : ∀ q : Nat, s.heap.size ≤ q → A q := fun q h => by rw [← hAe]; exact Or.inr h
  have hS : va_S A s.heap s.heap [] := va_S.rf
  have hl := lv_entry ([.ref a_this, .int rank]) (n := 3) (Nat.le_of_ble_eq_true rfl)
  rw [lg_entry_eq]
  generalize (lg_sl ([.ref a_this, .int rank]) ++ List.replicate (3 - (lg_sl ([.ref a_this, .int rank])).length) Slot.unset).toArray = ls at hl ⊢
  have hl : lv_has ls 3 [(0, .ref a_this), (1, .int rank)] := hl
  unfold wp_X6_holdInOrder at hw
  have hf18 := hts (Cond.fieldLink RX6 18 "RunmergeOffice$RunMaker" "held" "I") (aw_l aw_1_126)
  have hiX6 : ∀ w ∈ u_ws RX6 TX6 3, w ∈ wqX6_holdInOrder := fun w h => aw_l (aw_wsX60 w h)
  have hf9 := hts (Cond.fieldLink RX6 9 "RunmergeOffice$RunMaker" "memory" "[I") (aw_l aw_1_124)
  refine lv_aload_n hx hb dX6_holdInOrder_0 rfl (lv_at hl 0 rfl) ?_
  refine va_get (D := (dC, dI)) (ci := 8) (v := .int held) (C := RX6) (T := TX6) (N := 3) hx hb hts hiX6 hown hK hP 0 rfl rfl 2 (by decide) hf18 (fun _ h9 => h9) rfl dX6_holdInOrder_1 ?_
  refine lv_if_lt (tgt := 16) hx hb dX6_holdInOrder_4 (by decide) (fun c_1 => ?_) (fun c_1 => ?_)
  · have hw := hw.1 c_1
    have hP9 := hP.sub (ws' := [(a_this, .inr (8, [.ref a_memory, .ref a_runOf, .int held])), (a_memory, .inl (g 0, 50, .inl memory))]) [0, 1] rfl
    have hD9 := hD.sub (ws' := [(a_this, .inr (8, [.ref a_memory, .ref a_runOf, .int held])), (a_memory, .inl (g 0, 50, .inl memory))]) [0, 1] (by decide) rfl
    exact W.vret hx hb hr (fun t ht hW => ⟨⟨(held, memory, ()), rfl, hw, ⟨P_at ht hP9, hD9⟩⟩, hS.F ht⟩) hS.2.2 dX6_holdInOrder_16
  · have hw := hw.2 c_1
    refine lv_aload_n hx hb dX6_holdInOrder_7 rfl (lv_at hl 0 rfl) ?_
    refine va_get (D := (dC, dI)) (ci := 8) (v := .int held) (C := RX6) (T := TX6) (N := 3) hx hb hts hiX6 hown hK hP 0 rfl rfl 2 (by decide) hf18 (fun _ h9 => h9) rfl dX6_holdInOrder_8 ?_
    refine lv_bipush (v := 50) hx hb dX6_holdInOrder_11 (by decide) ?_
    refine lv_icmp_lt (tgt := 17) hx hb dX6_holdInOrder_13 (by decide) (fun c_2 => ?_) (fun c_2 => ?_)
    · have hw := hw.1 c_2
      refine lv_aload_n hx hb dX6_holdInOrder_17 rfl (lv_at hl 0 rfl) ?_
      refine va_get (D := (dC, dI)) (ci := 8) (v := .int held) (C := RX6) (T := TX6) (N := 3) hx hb hts hiX6 hown hK hP 0 rfl rfl 2 (by decide) hf18 (fun _ h9 => h9) rfl dX6_holdInOrder_18 ?_
      refine lv_istore_n (lv' := [(2, .int held), (0, .ref a_this), (1, .int rank)]) hx hb dX6_holdInOrder_21 rfl hl (by decide) rfl (fun ls hl => ?_)
      refine W_abs (fun QM hQM => ?_)
      have EX22_58 : ∀ (v2_5 : Int32) (memory_6 : Nat → Int32) (H : Heap) (locs : List Loc), (wx_X6_holdInOrder_22_58 held rank Q) v2_5 memory_6 → va_P (dC, dI) vwCl [(a_this, .inr (8, [.ref a_memory, .ref a_runOf, .int held])), (a_memory, .inl (g 0, 50, .inl memory_6))] H → va_D A [(a_this, .inr (8, [.ref a_memory, .ref a_runOf, .int held])), (a_memory, .inl (g 0, 50, .inl memory_6))] → va_S A s.heap H locs → ∀ (ls : Array Slot), lv_has ls 3 [(0, .ref a_this), (1, .int rank), (2, .int v2_5)] → W p l e (headSpec wqX6_holdInOrder ({ frames := 0, cells := 0, slots := 0, locals := 0 })).room s m ([.ref a_this, .int rank] : List Value).toArray below meth c H locs 0 0 QM (F0 m 58 ls []) := by
        intro v2_5 memory_6 H locs hw hP hD hS ls hl
        refine lv_aload_n hx hb dX6_holdInOrder_58 rfl (lv_at hl 0 rfl) ?_
        refine va_get (D := (dC, dI)) (ci := 8) (v := .ref a_memory) (C := RX6) (T := TX6) (N := 3) hx hb hts hiX6 hown hK hP 0 rfl rfl 0 (by decide) hf9 (fun _ h9 => h9) rfl dX6_holdInOrder_59 ?_
        refine lv_iload_n hx hb dX6_holdInOrder_62 rfl (lv_at hl 2 rfl) ?_
        refine lv_iload_n hx hb dX6_holdInOrder_63 rfl (lv_at hl 1 rfl) ?_
        refine va_iast hx hb hK hP hD hS 1 0 rfl rfl hw.1 dX6_holdInOrder_64 (fun H_7 L_8 hP hD hS => ?_)
        have hw := hw.2
        have hP : va_P (dC, dI) vwCl [(a_this, .inr (8, [.ref a_memory, .ref a_runOf, .int held])), (a_memory, .inl (g 0, 50, .inl (upd memory_6 v2_5.toNatClampNeg rank)))] H_7 := hP
        have hD : va_D A [(a_this, .inr (8, [.ref a_memory, .ref a_runOf, .int held])), (a_memory, .inl (g 0, 50, .inl (upd memory_6 v2_5.toNatClampNeg rank)))] := hD
        refine lv_aload_n hx hb dX6_holdInOrder_65 rfl (lv_at hl 0 rfl) ?_
        refine lv_dup hx hb dX6_holdInOrder_66 rfl ?_
        refine va_get (D := (dC, dI)) (ci := 8) (v := .int held) (C := RX6) (T := TX6) (N := 3) hx hb hts hiX6 hown hK hP 0 rfl rfl 2 (by decide) hf18 (fun _ h9 => h9) rfl dX6_holdInOrder_67 ?_
        refine lv_iconst (v := 1) hx hb dX6_holdInOrder_70 (by decide) ?_
        refine lv_iadd hx hb dX6_holdInOrder_71 ?_
        refine lv_topi (fun x_9 ex_9 => ?_)
        have hw := hw x_9 ex_9
        refine va_put (D := (dC, dI)) (ci := 8) (v := .int x_9) (ty := .int) (C := RX6) (T := TX6) (N := 3) hx hb hts hiX6 tyX6 tyX6_ok nmX6 hown hK hP hD hS 0 rfl rfl 2 (by decide) hf18 (fun _ h9 => h9) rfl (by decide +kernel) rfl rfl (Nat.le_of_ble_eq_true rfl) dX6_holdInOrder_72 (fun H_10 L_11 hP hD hS => ?_)
        have hP : va_P (dC, dI) vwCl [(a_this, .inr (8, [.ref a_memory, .ref a_runOf, .int x_9])), (a_memory, .inl (g 0, 50, .inl (upd memory_6 v2_5.toNatClampNeg rank)))] H_10 := hP
        have hD : va_D A [(a_this, .inr (8, [.ref a_memory, .ref a_runOf, .int x_9])), (a_memory, .inl (g 0, 50, .inl (upd memory_6 v2_5.toNatClampNeg rank)))] := hD
        subst hQM
        have hP9 := hP.sub (ws' := [(a_this, .inr (8, [.ref a_memory, .ref a_runOf, .int x_9])), (a_memory, .inl (g 0, 50, .inl (upd memory_6 v2_5.toNatClampNeg rank)))]) [0, 1] rfl
        have hD9 := hD.sub (ws' := [(a_this, .inr (8, [.ref a_memory, .ref a_runOf, .int x_9])), (a_memory, .inl (g 0, 50, .inl (upd memory_6 v2_5.toNatClampNeg rank)))]) [0, 1] (by decide) rfl
        exact W.vret hx hb hr (fun t ht hW => ⟨⟨(x_9, (upd memory_6 v2_5.toNatClampNeg rank), ()), rfl, hw, ⟨P_at ht hP9, hD9⟩⟩, hS.F ht⟩) hS.2.2 dX6_holdInOrder_75
      have LOOP22 : ∀ (n22 : Nat) (v2_3 : Int32) (memory_4 : Nat → Int32) (H : Heap) (locs : List Loc), wl_X6_holdInOrder_22 rank (wx_X6_holdInOrder_22_58 held rank Q) n22 v2_3 memory_4 → va_P (dC, dI) vwCl [(a_this, .inr (8, [.ref a_memory, .ref a_runOf, .int held])), (a_memory, .inl (g 0, 50, .inl memory_4))] H → va_D A [(a_this, .inr (8, [.ref a_memory, .ref a_runOf, .int held])), (a_memory, .inl (g 0, 50, .inl memory_4))] → va_S A s.heap H locs → ∀ (ls : Array Slot), lv_has ls 3 [(0, .ref a_this), (1, .int rank), (2, .int v2_3)] → W p l e (headSpec wqX6_holdInOrder ({ frames := 0, cells := 0, slots := 0, locals := 0 })).room s m ([.ref a_this, .int rank] : List Value).toArray below meth c H locs 0 0 QM (F0 m 22 ls []) := by
        intro n22
        induction n22 with
        | zero =>
          intro v2_3 memory_4 H locs hw hP hD hS ls hl
          exact False.elim hw
        | succ n22 ih22 =>
          intro v2_3 memory_4 H locs hw hP hD hS ls hl
          rw [wl_X6_holdInOrder_22_s] at hw
          refine lv_iload_n hx hb dX6_holdInOrder_22 rfl (lv_at hl 2 rfl) ?_
          refine lv_if_le (tgt := 58) hx hb dX6_holdInOrder_23 (by decide) (fun c_12 => ?_) (fun c_12 => ?_)
          · have hw := hw.1 c_12
            exact EX22_58 v2_3 memory_4 _ _ hw (hP.sub [0, 1] rfl) (hD.sub [0, 1] (by decide) rfl) hS _ (lv_sub hl [0, 1, 2] rfl)
          · have hw := hw.2 c_12
            refine lv_aload_n hx hb dX6_holdInOrder_26 rfl (lv_at hl 0 rfl) ?_
            refine va_get (D := (dC, dI)) (ci := 8) (v := .ref a_memory) (C := RX6) (T := TX6) (N := 3) hx hb hts hiX6 hown hK hP 0 rfl rfl 0 (by decide) hf9 (fun _ h9 => h9) rfl dX6_holdInOrder_27 ?_
            refine lv_iload_n hx hb dX6_holdInOrder_30 rfl (lv_at hl 2 rfl) ?_
            refine lv_iconst (v := 1) hx hb dX6_holdInOrder_31 (by decide) ?_
            refine lv_isub hx hb dX6_holdInOrder_32 ?_
            refine lv_topi (fun x_13 ex_13 => ?_)
            have hw := hw x_13 ex_13
            refine va_iald hx hb hK hP 1 0 rfl rfl hw.1 dX6_holdInOrder_33 ?_
            have hw := hw.2
            refine lv_topi (fun x_14 ex_14 => ?_)
            have hw := hw x_14 ex_14
            refine lv_iload_n hx hb dX6_holdInOrder_34 rfl (lv_at hl 1 rfl) ?_
            refine lv_icmp_le (tgt := 58) hx hb dX6_holdInOrder_35 (by decide) (fun c_15 => ?_) (fun c_15 => ?_)
            · have hw := hw.1 c_15
              exact EX22_58 v2_3 memory_4 _ _ hw (hP.sub [0, 1] rfl) (hD.sub [0, 1] (by decide) rfl) hS _ (lv_sub hl [0, 1, 2] rfl)
            · have hw := hw.2 c_15
              refine lv_aload_n hx hb dX6_holdInOrder_38 rfl (lv_at hl 0 rfl) ?_
              refine va_get (D := (dC, dI)) (ci := 8) (v := .ref a_memory) (C := RX6) (T := TX6) (N := 3) hx hb hts hiX6 hown hK hP 0 rfl rfl 0 (by decide) hf9 (fun _ h9 => h9) rfl dX6_holdInOrder_39 ?_
              refine lv_iload_n hx hb dX6_holdInOrder_42 rfl (lv_at hl 2 rfl) ?_
              refine lv_aload_n hx hb dX6_holdInOrder_43 rfl (lv_at hl 0 rfl) ?_
              refine va_get (D := (dC, dI)) (ci := 8) (v := .ref a_memory) (C := RX6) (T := TX6) (N := 3) hx hb hts hiX6 hown hK hP 0 rfl rfl 0 (by decide) hf9 (fun _ h9 => h9) rfl dX6_holdInOrder_44 ?_
              refine lv_iload_n hx hb dX6_holdInOrder_47 rfl (lv_at hl 2 rfl) ?_
              refine lv_iconst (v := 1) hx hb dX6_holdInOrder_48 (by decide) ?_
              refine lv_isub hx hb dX6_holdInOrder_49 ?_
              refine lv_topi (fun x_16 ex_16 => ?_)
              have hw := hw x_16 ex_16
              refine va_iald hx hb hK hP 1 0 rfl rfl hw.1 dX6_holdInOrder_50 ?_
              have hw := hw.2
              refine lv_topi (fun x_17 ex_17 => ?_)
              have hw := hw x_17 ex_17
              refine va_iast hx hb hK hP hD hS 1 0 rfl rfl hw.1 dX6_holdInOrder_51 (fun H_18 L_19 hP hD hS => ?_)
              have hw := hw.2
              have hP : va_P (dC, dI) vwCl [(a_this, .inr (8, [.ref a_memory, .ref a_runOf, .int held])), (a_memory, .inl (g 0, 50, .inl (upd memory_4 v2_3.toNatClampNeg x_17)))] H_18 := hP
              have hD : va_D A [(a_this, .inr (8, [.ref a_memory, .ref a_runOf, .int held])), (a_memory, .inl (g 0, 50, .inl (upd memory_4 v2_3.toNatClampNeg x_17)))] := hD
              obtain ⟨x_20, ex_20⟩ : ∃ y : Int32, y = v2_3 + (-1) := ⟨_, rfl⟩
              have hw := hw x_20 ex_20
              refine lv_iinc (v := x_20) (lv' := [(2, .int x_20), (0, .ref a_this), (1, .int rank)]) hx hb dX6_holdInOrder_52 hl (k := 2) rfl (by rw [ex_20]; rfl) (by decide) rfl (fun ls hl => ?_)
              refine lv_goto (tgt := 22) hx hb dX6_holdInOrder_55 (by decide) ?_
              exact ih22 x_20 (upd memory_4 v2_3.toNatClampNeg x_17) _ _ hw (hP.sub [0, 1] rfl) (hD.sub [0, 1] (by decide) rfl) hS _ (lv_sub hl [1, 2, 0] rfl)
      obtain ⟨n22, hw⟩ := hw
      exact LOOP22 n22 held memory _ _ hw (hP.sub [0, 1] rfl) (hD.sub [0, 1] (by decide) rfl) hS _ (lv_sub hl [1, 2, 0] rfl)
    · have hw := hw.2 c_2
      have hP9 := hP.sub (ws' := [(a_this, .inr (8, [.ref a_memory, .ref a_runOf, .int held])), (a_memory, .inl (g 0, 50, .inl memory))]) [0, 1] rfl
      have hD9 := hD.sub (ws' := [(a_this, .inr (8, [.ref a_memory, .ref a_runOf, .int held])), (a_memory, .inl (g 0, 50, .inl memory))]) [0, 1] (by decide) rfl
      exact W.vret hx hb hr (fun t ht hW => ⟨⟨(held, memory, ()), rfl, hw, ⟨P_at ht hP9, hD9⟩⟩, hS.F ht⟩) hS.2.2 dX6_holdInOrder_16
theorem dX6_hold_0 : decode cX6_hold 0 = .ok (.iload_n 1, 1) := by decide +kernel
theorem dX6_hold_1 : decode cX6_hold 1 = .ok (.ifCond .lt 23, 3) := by decide +kernel
theorem dX6_hold_24 : decode cX6_hold 24 = .ok (.return_, 1) := by decide +kernel
theorem dX6_hold_4 : decode cX6_hold 4 = .ok (.iload_n 1, 1) := by decide +kernel
theorem dX6_hold_5 : decode cX6_hold 5 = .ok (.bipush 50, 2) := by decide +kernel
theorem dX6_hold_7 : decode cX6_hold 7 = .ok (.if_icmp .ge 17, 3) := by decide +kernel
theorem dX6_hold_10 : decode cX6_hold 10 = .ok (.aload_n 0, 1) := by decide +kernel
theorem dX6_hold_11 : decode cX6_hold 11 = .ok (.getfield 9, 3) := by decide +kernel
theorem dX6_hold_14 : decode cX6_hold 14 = .ok (.iload_n 1, 1) := by decide +kernel
theorem dX6_hold_15 : decode cX6_hold 15 = .ok (.iload_n 2, 1) := by decide +kernel
theorem dX6_hold_16 : decode cX6_hold 16 = .ok (.iastore, 1) := by decide +kernel
theorem dX6_hold_17 : decode cX6_hold 17 = .ok (.aload_n 0, 1) := by decide +kernel
theorem dX6_hold_18 : decode cX6_hold 18 = .ok (.getfield 15, 3) := by decide +kernel
theorem dX6_hold_21 : decode cX6_hold 21 = .ok (.iload_n 1, 1) := by decide +kernel
theorem dX6_hold_22 : decode cX6_hold 22 = .ok (.iload_n 3, 1) := by decide +kernel
theorem dX6_hold_23 : decode cX6_hold 23 = .ok (.iastore, 1) := by decide +kernel
abbrev Wa_X6_hold (g : Nat → ClassId) (a_this : Nat) (a_memory : Nat) (a_runOf : Nat) (held : Int32) (memory : Nat → Int32) (runOf : Nat → Int32) : va_W := [(a_this, .inr (8, [.ref a_memory, .ref a_runOf, .int held])), (a_memory, .inl (g 0, 50, .inl memory)), (a_runOf, .inl (g 0, 50, .inl runOf))]
abbrev Wb_X6_hold (g : Nat → ClassId) (a_this : Nat) (a_memory : Nat) (a_runOf : Nat) (held : Int32) (u : (Nat → Int32) × (Nat → Int32) × Unit) : va_W := [(a_this, .inr (8, [.ref a_memory, .ref a_runOf, .int held])), (a_memory, .inl (g 0, 50, .inl u.1)), (a_runOf, .inl (g 0, 50, .inl u.2.1))]
set_option maxHeartbeats 8000000 in
set_option maxRecDepth 100000 in
theorem c_X6_hold (l : Launch) (dC : Nat → ClassId) (dI : Nat → Nat → Nat) (g : Nat → ClassId) (a_this : Nat) (a_memory : Nat) (a_runOf : Nat) (held : Int32) (memory : Nat → Int32) (runOf : Nat → Int32) (slot : Int32) (rank : Int32) (run : Int32) (Q : (Nat → Int32) → (Nat → Int32) → Prop) (hw : wp_X6_hold memory runOf slot rank run Q) (sz : Nat) : Met l yX6_hold wqX6_hold ({ frames := 0, cells := 0, slots := 0, locals := 0 }) (va_Pc [.ref a_this, .int slot, .int rank, .int run] (PG (dC, dI) g (Wa_X6_hold g a_this a_memory a_runOf held memory runOf) sz)) (va_Qv (fun (u : (Nat → Int32) × (Nat → Int32) × Unit) => Q u.1 u.2.1) (fun (u : (Nat → Int32) × (Nat → Int32) × Unit) t9 => va_P (dC, dI) vwCl (Wb_X6_hold g a_this a_memory a_runOf held u) t9.heap ∧ va_D (va_A (Wa_X6_hold g a_this a_memory a_runOf held memory runOf) sz) (Wb_X6_hold g a_this a_memory a_runOf held u)) (va_A (Wa_X6_hold g a_this a_memory a_runOf held memory runOf) sz)) 0 0 (va_A (Wa_X6_hold g a_this a_memory a_runOf held memory runOf) sz) := by
  refine Met.ofW (cc := cX6_hold) (maxL := 4) (ret := none) (by decide) rfl ?_
  intro p e s m args below meth c s₁ B hml hv
  obtain ⟨rfl, hsz, hP, hK, hD0, hG⟩ := hv
  have hx := B.exec
  have hb := B.bytes
  have hr := B.returns
  have hts := atoms_spec (ws := wqX6_hold) B.pre
  have hown : s.vm.findClass RX6 = some m.cls := findClass_of_methodNamed B.named
  have hlocks := B.notSynchronized
  subst hsz
  have hD := hD0.self (sz := s.heap.size)
  generalize hAe : va_A (Wa_X6_hold g a_this a_memory a_runOf held memory runOf) s.heap.size = A at hD hG ⊢
  have hA : ∀ q : Nat, s.heap.size ≤ q → A q := fun q h => by rw [← hAe]; exact Or.inr h
  have hS : va_S A s.heap s.heap [] := va_S.rf
  have hl := lv_entry ([.ref a_this, .int slot, .int rank, .int run]) (n := 4) (Nat.le_of_ble_eq_true rfl)
  rw [lg_entry_eq]
  generalize (lg_sl ([.ref a_this, .int slot, .int rank, .int run]) ++ List.replicate (4 - (lg_sl ([.ref a_this, .int slot, .int rank, .int run])).length) Slot.unset).toArray = ls at hl ⊢
  have hl : lv_has ls 4 [(0, .ref a_this), (1, .int slot), (2, .int rank), (3, .int run)] := hl
  unfold wp_X6_hold at hw
  have hf9 := hts (Cond.fieldLink RX6 9 "RunmergeOffice$RunMaker" "memory" "[I") (aw_l aw_1_124)
  have hiX6 : ∀ w ∈ u_ws RX6 TX6 3, w ∈ wqX6_hold := fun w h => aw_l (aw_wsX60 w h)
  have hf15 := hts (Cond.fieldLink RX6 15 "RunmergeOffice$RunMaker" "runOf" "[I") (aw_l aw_1_125)
  refine lv_iload_n hx hb dX6_hold_0 rfl (lv_at hl 1 rfl) ?_
  refine lv_if_lt (tgt := 24) hx hb dX6_hold_1 (by decide) (fun c_1 => ?_) (fun c_1 => ?_)
  · have hw := hw.1 c_1
    have hP9 := hP.sub (ws' := [(a_this, .inr (8, [.ref a_memory, .ref a_runOf, .int held])), (a_memory, .inl (g 0, 50, .inl memory)), (a_runOf, .inl (g 0, 50, .inl runOf))]) [0, 1, 2] rfl
    have hD9 := hD.sub (ws' := [(a_this, .inr (8, [.ref a_memory, .ref a_runOf, .int held])), (a_memory, .inl (g 0, 50, .inl memory)), (a_runOf, .inl (g 0, 50, .inl runOf))]) [0, 1, 2] (by decide) rfl
    exact W.vret hx hb hr (fun t ht hW => ⟨⟨(memory, runOf, ()), rfl, hw, ⟨P_at ht hP9, hD9⟩⟩, hS.F ht⟩) hS.2.2 dX6_hold_24
  · have hw := hw.2 c_1
    refine lv_iload_n hx hb dX6_hold_4 rfl (lv_at hl 1 rfl) ?_
    refine lv_bipush (v := 50) hx hb dX6_hold_5 (by decide) ?_
    refine lv_icmp_ge (tgt := 24) hx hb dX6_hold_7 (by decide) (fun c_2 => ?_) (fun c_2 => ?_)
    · have hw := hw.1 c_2
      have hP9 := hP.sub (ws' := [(a_this, .inr (8, [.ref a_memory, .ref a_runOf, .int held])), (a_memory, .inl (g 0, 50, .inl memory)), (a_runOf, .inl (g 0, 50, .inl runOf))]) [0, 1, 2] rfl
      have hD9 := hD.sub (ws' := [(a_this, .inr (8, [.ref a_memory, .ref a_runOf, .int held])), (a_memory, .inl (g 0, 50, .inl memory)), (a_runOf, .inl (g 0, 50, .inl runOf))]) [0, 1, 2] (by decide) rfl
      exact W.vret hx hb hr (fun t ht hW => ⟨⟨(memory, runOf, ()), rfl, hw, ⟨P_at ht hP9, hD9⟩⟩, hS.F ht⟩) hS.2.2 dX6_hold_24
    · have hw := hw.2 c_2
      refine lv_aload_n hx hb dX6_hold_10 rfl (lv_at hl 0 rfl) ?_
      refine va_get (D := (dC, dI)) (ci := 8) (v := .ref a_memory) (C := RX6) (T := TX6) (N := 3) hx hb hts hiX6 hown hK hP 0 rfl rfl 0 (by decide) hf9 (fun _ h9 => h9) rfl dX6_hold_11 ?_
      refine lv_iload_n hx hb dX6_hold_14 rfl (lv_at hl 1 rfl) ?_
      refine lv_iload_n hx hb dX6_hold_15 rfl (lv_at hl 2 rfl) ?_
      refine va_iast hx hb hK hP hD hS 1 0 rfl rfl hw.1 dX6_hold_16 (fun H_3 L_4 hP hD hS => ?_)
      have hw := hw.2
      have hP : va_P (dC, dI) vwCl [(a_this, .inr (8, [.ref a_memory, .ref a_runOf, .int held])), (a_memory, .inl (g 0, 50, .inl (upd memory slot.toNatClampNeg rank))), (a_runOf, .inl (g 0, 50, .inl runOf))] H_3 := hP
      have hD : va_D A [(a_this, .inr (8, [.ref a_memory, .ref a_runOf, .int held])), (a_memory, .inl (g 0, 50, .inl (upd memory slot.toNatClampNeg rank))), (a_runOf, .inl (g 0, 50, .inl runOf))] := hD
      refine lv_aload_n hx hb dX6_hold_17 rfl (lv_at hl 0 rfl) ?_
      refine va_get (D := (dC, dI)) (ci := 8) (v := .ref a_runOf) (C := RX6) (T := TX6) (N := 3) hx hb hts hiX6 hown hK hP 0 rfl rfl 1 (by decide) hf15 (fun _ h9 => h9) rfl dX6_hold_18 ?_
      refine lv_iload_n hx hb dX6_hold_21 rfl (lv_at hl 1 rfl) ?_
      refine lv_iload_n hx hb dX6_hold_22 rfl (lv_at hl 3 rfl) ?_
      refine va_iast hx hb hK hP hD hS 2 0 rfl rfl hw.1 dX6_hold_23 (fun H_5 L_6 hP hD hS => ?_)
      have hw := hw.2
      have hP : va_P (dC, dI) vwCl [(a_this, .inr (8, [.ref a_memory, .ref a_runOf, .int held])), (a_memory, .inl (g 0, 50, .inl (upd memory slot.toNatClampNeg rank))), (a_runOf, .inl (g 0, 50, .inl (upd runOf slot.toNatClampNeg run)))] H_5 := hP
      have hD : va_D A [(a_this, .inr (8, [.ref a_memory, .ref a_runOf, .int held])), (a_memory, .inl (g 0, 50, .inl (upd memory slot.toNatClampNeg rank))), (a_runOf, .inl (g 0, 50, .inl (upd runOf slot.toNatClampNeg run)))] := hD
      have hP9 := hP.sub (ws' := [(a_this, .inr (8, [.ref a_memory, .ref a_runOf, .int held])), (a_memory, .inl (g 0, 50, .inl (upd memory slot.toNatClampNeg rank))), (a_runOf, .inl (g 0, 50, .inl (upd runOf slot.toNatClampNeg run)))]) [0, 1, 2] rfl
      have hD9 := hD.sub (ws' := [(a_this, .inr (8, [.ref a_memory, .ref a_runOf, .int held])), (a_memory, .inl (g 0, 50, .inl (upd memory slot.toNatClampNeg rank))), (a_runOf, .inl (g 0, 50, .inl (upd runOf slot.toNatClampNeg run)))]) [0, 1, 2] (by decide) rfl
      exact W.vret hx hb hr (fun t ht hW => ⟨⟨((upd memory slot.toNatClampNeg rank), (upd runOf slot.toNatClampNeg run), ()), rfl, hw, ⟨P_at ht hP9, hD9⟩⟩, hS.F ht⟩) hS.2.2 dX6_hold_24
theorem dX6_drop_0 : decode cX6_drop 0 = .ok (.aload_n 0, 1) := by decide +kernel
theorem dX6_drop_1 : decode cX6_drop 1 = .ok (.getfield 18, 3) := by decide +kernel
theorem dX6_drop_4 : decode cX6_drop 4 = .ok (.iconst 1, 1) := by decide +kernel
theorem dX6_drop_5 : decode cX6_drop 5 = .ok (.isub, 1) := by decide +kernel
theorem dX6_drop_6 : decode cX6_drop 6 = .ok (.istore_n 2, 1) := by decide +kernel
theorem dX6_drop_7 : decode cX6_drop 7 = .ok (.iload_n 1, 1) := by decide +kernel
theorem dX6_drop_8 : decode cX6_drop 8 = .ok (.ifCond .lt 43, 3) := by decide +kernel
theorem dX6_drop_51 : decode cX6_drop 51 = .ok (.return_, 1) := by decide +kernel
theorem dX6_drop_11 : decode cX6_drop 11 = .ok (.iload_n 1, 1) := by decide +kernel
theorem dX6_drop_12 : decode cX6_drop 12 = .ok (.iload_n 2, 1) := by decide +kernel
theorem dX6_drop_13 : decode cX6_drop 13 = .ok (.if_icmp .gt 38, 3) := by decide +kernel
theorem dX6_drop_16 : decode cX6_drop 16 = .ok (.iload_n 2, 1) := by decide +kernel
theorem dX6_drop_17 : decode cX6_drop 17 = .ok (.bipush 50, 2) := by decide +kernel
theorem dX6_drop_19 : decode cX6_drop 19 = .ok (.if_icmp .ge 32, 3) := by decide +kernel
theorem dX6_drop_22 : decode cX6_drop 22 = .ok (.aload_n 0, 1) := by decide +kernel
theorem dX6_drop_23 : decode cX6_drop 23 = .ok (.getfield 9, 3) := by decide +kernel
theorem dX6_drop_26 : decode cX6_drop 26 = .ok (.iload_n 1, 1) := by decide +kernel
theorem dX6_drop_27 : decode cX6_drop 27 = .ok (.aload_n 0, 1) := by decide +kernel
theorem dX6_drop_28 : decode cX6_drop 28 = .ok (.getfield 9, 3) := by decide +kernel
theorem dX6_drop_31 : decode cX6_drop 31 = .ok (.iload_n 2, 1) := by decide +kernel
theorem dX6_drop_32 : decode cX6_drop 32 = .ok (.iaload, 1) := by decide +kernel
theorem dX6_drop_33 : decode cX6_drop 33 = .ok (.iastore, 1) := by decide +kernel
theorem dX6_drop_34 : decode cX6_drop 34 = .ok (.aload_n 0, 1) := by decide +kernel
theorem dX6_drop_35 : decode cX6_drop 35 = .ok (.getfield 15, 3) := by decide +kernel
theorem dX6_drop_38 : decode cX6_drop 38 = .ok (.iload_n 1, 1) := by decide +kernel
theorem dX6_drop_39 : decode cX6_drop 39 = .ok (.aload_n 0, 1) := by decide +kernel
theorem dX6_drop_40 : decode cX6_drop 40 = .ok (.getfield 15, 3) := by decide +kernel
theorem dX6_drop_43 : decode cX6_drop 43 = .ok (.iload_n 2, 1) := by decide +kernel
theorem dX6_drop_44 : decode cX6_drop 44 = .ok (.iaload, 1) := by decide +kernel
theorem dX6_drop_45 : decode cX6_drop 45 = .ok (.iastore, 1) := by decide +kernel
theorem dX6_drop_46 : decode cX6_drop 46 = .ok (.aload_n 0, 1) := by decide +kernel
theorem dX6_drop_47 : decode cX6_drop 47 = .ok (.iload_n 2, 1) := by decide +kernel
theorem dX6_drop_48 : decode cX6_drop 48 = .ok (.putfield 18, 3) := by decide +kernel
abbrev Wa_X6_drop (g : Nat → ClassId) (a_this : Nat) (a_memory : Nat) (a_runOf : Nat) (held : Int32) (memory : Nat → Int32) (runOf : Nat → Int32) : va_W := [(a_this, .inr (8, [.ref a_memory, .ref a_runOf, .int held])), (a_memory, .inl (g 0, 50, .inl memory)), (a_runOf, .inl (g 0, 50, .inl runOf))]
abbrev Wb_X6_drop (g : Nat → ClassId) (a_this : Nat) (a_memory : Nat) (a_runOf : Nat) (u : Int32 × (Nat → Int32) × (Nat → Int32) × Unit) : va_W := [(a_this, .inr (8, [.ref a_memory, .ref a_runOf, .int u.1])), (a_memory, .inl (g 0, 50, .inl u.2.1)), (a_runOf, .inl (g 0, 50, .inl u.2.2.1))]
set_option maxHeartbeats 8000000 in
set_option maxRecDepth 100000 in
theorem c_X6_drop (l : Launch) (dC : Nat → ClassId) (dI : Nat → Nat → Nat) (g : Nat → ClassId) (a_this : Nat) (a_memory : Nat) (a_runOf : Nat) (held : Int32) (memory : Nat → Int32) (runOf : Nat → Int32) (slot : Int32) (Q : Int32 → (Nat → Int32) → (Nat → Int32) → Prop) (hw : wp_X6_drop held memory runOf slot Q) (sz : Nat) : Met l yX6_drop wqX6_drop ({ frames := 0, cells := 0, slots := 0, locals := 0 }) (va_Pc [.ref a_this, .int slot] (PG (dC, dI) g (Wa_X6_drop g a_this a_memory a_runOf held memory runOf) sz)) (va_Qv (fun (u : Int32 × (Nat → Int32) × (Nat → Int32) × Unit) => Q u.1 u.2.1 u.2.2.1) (fun (u : Int32 × (Nat → Int32) × (Nat → Int32) × Unit) t9 => va_P (dC, dI) vwCl (Wb_X6_drop g a_this a_memory a_runOf u) t9.heap ∧ va_D (va_A (Wa_X6_drop g a_this a_memory a_runOf held memory runOf) sz) (Wb_X6_drop g a_this a_memory a_runOf u)) (va_A (Wa_X6_drop g a_this a_memory a_runOf held memory runOf) sz)) 0 0 (va_A (Wa_X6_drop g a_this a_memory a_runOf held memory runOf) sz) := by
  refine Met.ofW (cc := cX6_drop) (maxL := 3) (ret := none) (by decide) rfl ?_
  intro p e s m args below meth c s₁ B hml hv
  obtain ⟨rfl, hsz, hP, hK, hD0, hG⟩ := hv
  have hx := B.exec
  have hb := B.bytes
  have hr := B.returns
  have hts := atoms_spec (ws := wqX6_drop) B.pre
  have hown : s.vm.findClass RX6 = some m.cls := findClass_of_methodNamed B.named
  have hlocks := B.notSynchronized
  subst hsz
  have hD := hD0.self (sz := s.heap.size)
  generalize hAe : va_A (Wa_X6_drop g a_this a_memory a_runOf held memory runOf) s.heap.size = A at hD hG ⊢
  have hA : ∀ q : Nat, s.heap.size ≤ q → A q := fun q h => by rw [← hAe]; exact Or.inr h
  have hS : va_S A s.heap s.heap [] := va_S.rf
  have hl := lv_entry ([.ref a_this, .int slot]) (n := 3) (Nat.le_of_ble_eq_true rfl)
  rw [lg_entry_eq]
  generalize (lg_sl ([.ref a_this, .int slot]) ++ List.replicate (3 - (lg_sl ([.ref a_this, .int slot])).length) Slot.unset).toArray = ls at hl ⊢
  have hl : lv_has ls 3 [(0, .ref a_this), (1, .int slot)] := hl
  unfold wp_X6_drop at hw
  have hf18 := hts (Cond.fieldLink RX6 18 "RunmergeOffice$RunMaker" "held" "I") (aw_l aw_1_126)
  have hiX6 : ∀ w ∈ u_ws RX6 TX6 3, w ∈ wqX6_drop := fun w h => aw_l (aw_wsX60 w h)
  have hf9 := hts (Cond.fieldLink RX6 9 "RunmergeOffice$RunMaker" "memory" "[I") (aw_l aw_1_124)
  have hf15 := hts (Cond.fieldLink RX6 15 "RunmergeOffice$RunMaker" "runOf" "[I") (aw_l aw_1_125)
  refine lv_aload_n hx hb dX6_drop_0 rfl (lv_at hl 0 rfl) ?_
  refine va_get (D := (dC, dI)) (ci := 8) (v := .int held) (C := RX6) (T := TX6) (N := 3) hx hb hts hiX6 hown hK hP 0 rfl rfl 2 (by decide) hf18 (fun _ h9 => h9) rfl dX6_drop_1 ?_
  refine lv_iconst (v := 1) hx hb dX6_drop_4 (by decide) ?_
  refine lv_isub hx hb dX6_drop_5 ?_
  refine lv_topi (fun x_1 ex_1 => ?_)
  have hw := hw x_1 ex_1
  refine lv_istore_n (lv' := [(2, .int x_1), (0, .ref a_this), (1, .int slot)]) hx hb dX6_drop_6 rfl hl (by decide) rfl (fun ls hl => ?_)
  refine lv_iload_n hx hb dX6_drop_7 rfl (lv_at hl 2 rfl) ?_
  refine lv_if_lt (tgt := 51) hx hb dX6_drop_8 (by decide) (fun c_2 => ?_) (fun c_2 => ?_)
  · have hw := hw.1 c_2
    have hP9 := hP.sub (ws' := [(a_this, .inr (8, [.ref a_memory, .ref a_runOf, .int held])), (a_memory, .inl (g 0, 50, .inl memory)), (a_runOf, .inl (g 0, 50, .inl runOf))]) [0, 1, 2] rfl
    have hD9 := hD.sub (ws' := [(a_this, .inr (8, [.ref a_memory, .ref a_runOf, .int held])), (a_memory, .inl (g 0, 50, .inl memory)), (a_runOf, .inl (g 0, 50, .inl runOf))]) [0, 1, 2] (by decide) rfl
    exact W.vret hx hb hr (fun t ht hW => ⟨⟨(held, memory, runOf, ()), rfl, hw, ⟨P_at ht hP9, hD9⟩⟩, hS.F ht⟩) hS.2.2 dX6_drop_51
  · have hw := hw.2 c_2
    refine lv_iload_n hx hb dX6_drop_11 rfl (lv_at hl 2 rfl) ?_
    refine lv_iload_n hx hb dX6_drop_12 rfl (lv_at hl 0 rfl) ?_
    refine lv_icmp_gt (tgt := 51) hx hb dX6_drop_13 (by decide) (fun c_3 => ?_) (fun c_3 => ?_)
    · have hw := hw.1 c_3
      have hP9 := hP.sub (ws' := [(a_this, .inr (8, [.ref a_memory, .ref a_runOf, .int held])), (a_memory, .inl (g 0, 50, .inl memory)), (a_runOf, .inl (g 0, 50, .inl runOf))]) [0, 1, 2] rfl
      have hD9 := hD.sub (ws' := [(a_this, .inr (8, [.ref a_memory, .ref a_runOf, .int held])), (a_memory, .inl (g 0, 50, .inl memory)), (a_runOf, .inl (g 0, 50, .inl runOf))]) [0, 1, 2] (by decide) rfl
      exact W.vret hx hb hr (fun t ht hW => ⟨⟨(held, memory, runOf, ()), rfl, hw, ⟨P_at ht hP9, hD9⟩⟩, hS.F ht⟩) hS.2.2 dX6_drop_51
    · have hw := hw.2 c_3
      refine lv_iload_n hx hb dX6_drop_16 rfl (lv_at hl 0 rfl) ?_
      refine lv_bipush (v := 50) hx hb dX6_drop_17 (by decide) ?_
      refine lv_icmp_ge (tgt := 51) hx hb dX6_drop_19 (by decide) (fun c_4 => ?_) (fun c_4 => ?_)
      · have hw := hw.1 c_4
        have hP9 := hP.sub (ws' := [(a_this, .inr (8, [.ref a_memory, .ref a_runOf, .int held])), (a_memory, .inl (g 0, 50, .inl memory)), (a_runOf, .inl (g 0, 50, .inl runOf))]) [0, 1, 2] rfl
        have hD9 := hD.sub (ws' := [(a_this, .inr (8, [.ref a_memory, .ref a_runOf, .int held])), (a_memory, .inl (g 0, 50, .inl memory)), (a_runOf, .inl (g 0, 50, .inl runOf))]) [0, 1, 2] (by decide) rfl
        exact W.vret hx hb hr (fun t ht hW => ⟨⟨(held, memory, runOf, ()), rfl, hw, ⟨P_at ht hP9, hD9⟩⟩, hS.F ht⟩) hS.2.2 dX6_drop_51
      · have hw := hw.2 c_4
        refine lv_aload_n hx hb dX6_drop_22 rfl (lv_at hl 1 rfl) ?_
        refine va_get (D := (dC, dI)) (ci := 8) (v := .ref a_memory) (C := RX6) (T := TX6) (N := 3) hx hb hts hiX6 hown hK hP 0 rfl rfl 0 (by decide) hf9 (fun _ h9 => h9) rfl dX6_drop_23 ?_
        refine lv_iload_n hx hb dX6_drop_26 rfl (lv_at hl 2 rfl) ?_
        refine lv_aload_n hx hb dX6_drop_27 rfl (lv_at hl 1 rfl) ?_
        refine va_get (D := (dC, dI)) (ci := 8) (v := .ref a_memory) (C := RX6) (T := TX6) (N := 3) hx hb hts hiX6 hown hK hP 0 rfl rfl 0 (by decide) hf9 (fun _ h9 => h9) rfl dX6_drop_28 ?_
        refine lv_iload_n hx hb dX6_drop_31 rfl (lv_at hl 0 rfl) ?_
        refine va_iald hx hb hK hP 1 0 rfl rfl hw.1 dX6_drop_32 ?_
        have hw := hw.2
        refine lv_topi (fun x_5 ex_5 => ?_)
        have hw := hw x_5 ex_5
        refine va_iast hx hb hK hP hD hS 1 0 rfl rfl hw.1 dX6_drop_33 (fun H_6 L_7 hP hD hS => ?_)
        have hw := hw.2
        have hP : va_P (dC, dI) vwCl [(a_this, .inr (8, [.ref a_memory, .ref a_runOf, .int held])), (a_memory, .inl (g 0, 50, .inl (upd memory slot.toNatClampNeg x_5))), (a_runOf, .inl (g 0, 50, .inl runOf))] H_6 := hP
        have hD : va_D A [(a_this, .inr (8, [.ref a_memory, .ref a_runOf, .int held])), (a_memory, .inl (g 0, 50, .inl (upd memory slot.toNatClampNeg x_5))), (a_runOf, .inl (g 0, 50, .inl runOf))] := hD
        refine lv_aload_n hx hb dX6_drop_34 rfl (lv_at hl 1 rfl) ?_
        refine va_get (D := (dC, dI)) (ci := 8) (v := .ref a_runOf) (C := RX6) (T := TX6) (N := 3) hx hb hts hiX6 hown hK hP 0 rfl rfl 1 (by decide) hf15 (fun _ h9 => h9) rfl dX6_drop_35 ?_
        refine lv_iload_n hx hb dX6_drop_38 rfl (lv_at hl 2 rfl) ?_
        refine lv_aload_n hx hb dX6_drop_39 rfl (lv_at hl 1 rfl) ?_
        refine va_get (D := (dC, dI)) (ci := 8) (v := .ref a_runOf) (C := RX6) (T := TX6) (N := 3) hx hb hts hiX6 hown hK hP 0 rfl rfl 1 (by decide) hf15 (fun _ h9 => h9) rfl dX6_drop_40 ?_
        refine lv_iload_n hx hb dX6_drop_43 rfl (lv_at hl 0 rfl) ?_
        refine va_iald hx hb hK hP 2 0 rfl rfl hw.1 dX6_drop_44 ?_
        have hw := hw.2
        refine lv_topi (fun x_8 ex_8 => ?_)
        have hw := hw x_8 ex_8
        refine va_iast hx hb hK hP hD hS 2 0 rfl rfl hw.1 dX6_drop_45 (fun H_9 L_10 hP hD hS => ?_)
        have hw := hw.2
        have hP : va_P (dC, dI) vwCl [(a_this, .inr (8, [.ref a_memory, .ref a_runOf, .int held])), (a_memory, .inl (g 0, 50, .inl (upd memory slot.toNatClampNeg x_5))), (a_runOf, .inl (g 0, 50, .inl (upd runOf slot.toNatClampNeg x_8)))] H_9 := hP
        have hD : va_D A [(a_this, .inr (8, [.ref a_memory, .ref a_runOf, .int held])), (a_memory, .inl (g 0, 50, .inl (upd memory slot.toNatClampNeg x_5))), (a_runOf, .inl (g 0, 50, .inl (upd runOf slot.toNatClampNeg x_8)))] := hD
        refine lv_aload_n hx hb dX6_drop_46 rfl (lv_at hl 1 rfl) ?_
        refine lv_iload_n hx hb dX6_drop_47 rfl (lv_at hl 0 rfl) ?_
        refine va_put (D := (dC, dI)) (ci := 8) (v := .int x_1) (ty := .int) (C := RX6) (T := TX6) (N := 3) hx hb hts hiX6 tyX6 tyX6_ok nmX6 hown hK hP hD hS 0 rfl rfl 2 (by decide) hf18 (fun _ h9 => h9) rfl (by decide +kernel) rfl rfl (Nat.le_of_ble_eq_true rfl) dX6_drop_48 (fun H_11 L_12 hP hD hS => ?_)
        have hP : va_P (dC, dI) vwCl [(a_this, .inr (8, [.ref a_memory, .ref a_runOf, .int x_1])), (a_memory, .inl (g 0, 50, .inl (upd memory slot.toNatClampNeg x_5))), (a_runOf, .inl (g 0, 50, .inl (upd runOf slot.toNatClampNeg x_8)))] H_11 := hP
        have hD : va_D A [(a_this, .inr (8, [.ref a_memory, .ref a_runOf, .int x_1])), (a_memory, .inl (g 0, 50, .inl (upd memory slot.toNatClampNeg x_5))), (a_runOf, .inl (g 0, 50, .inl (upd runOf slot.toNatClampNeg x_8)))] := hD
        have hP9 := hP.sub (ws' := [(a_this, .inr (8, [.ref a_memory, .ref a_runOf, .int x_1])), (a_memory, .inl (g 0, 50, .inl (upd memory slot.toNatClampNeg x_5))), (a_runOf, .inl (g 0, 50, .inl (upd runOf slot.toNatClampNeg x_8)))]) [0, 1, 2] rfl
        have hD9 := hD.sub (ws' := [(a_this, .inr (8, [.ref a_memory, .ref a_runOf, .int x_1])), (a_memory, .inl (g 0, 50, .inl (upd memory slot.toNatClampNeg x_5))), (a_runOf, .inl (g 0, 50, .inl (upd runOf slot.toNatClampNeg x_8)))]) [0, 1, 2] (by decide) rfl
        exact W.vret hx hb hr (fun t ht hW => ⟨⟨(x_1, (upd memory slot.toNatClampNeg x_5), (upd runOf slot.toNatClampNeg x_8), ()), rfl, hw, ⟨P_at ht hP9, hD9⟩⟩, hS.F ht⟩) hS.2.2 dX6_drop_51
theorem dX6_leastOf_0 : decode cX6_leastOf 0 = .ok (.iconst (-1), 1) := by decide +kernel
theorem dX6_leastOf_1 : decode cX6_leastOf 1 = .ok (.istore_n 2, 1) := by decide +kernel
theorem dX6_leastOf_2 : decode cX6_leastOf 2 = .ok (.iconst 0, 1) := by decide +kernel
theorem dX6_leastOf_3 : decode cX6_leastOf 3 = .ok (.istore_n 3, 1) := by decide +kernel
theorem dX6_leastOf_56 : decode cX6_leastOf 56 = .ok (.iload_n 2, 1) := by decide +kernel
theorem dX6_leastOf_57 : decode cX6_leastOf 57 = .ok (.ireturn, 1) := by decide +kernel
theorem dX6_leastOf_4 : decode cX6_leastOf 4 = .ok (.iload_n 3, 1) := by decide +kernel
theorem dX6_leastOf_5 : decode cX6_leastOf 5 = .ok (.aload_n 0, 1) := by decide +kernel
theorem dX6_leastOf_6 : decode cX6_leastOf 6 = .ok (.getfield 18, 3) := by decide +kernel
theorem dX6_leastOf_9 : decode cX6_leastOf 9 = .ok (.if_icmp .ge 47, 3) := by decide +kernel
theorem dX6_leastOf_12 : decode cX6_leastOf 12 = .ok (.iload_n 3, 1) := by decide +kernel
theorem dX6_leastOf_13 : decode cX6_leastOf 13 = .ok (.bipush 50, 2) := by decide +kernel
theorem dX6_leastOf_15 : decode cX6_leastOf 15 = .ok (.if_icmp .ge 41, 3) := by decide +kernel
theorem dX6_leastOf_18 : decode cX6_leastOf 18 = .ok (.aload_n 0, 1) := by decide +kernel
theorem dX6_leastOf_19 : decode cX6_leastOf 19 = .ok (.getfield 15, 3) := by decide +kernel
theorem dX6_leastOf_22 : decode cX6_leastOf 22 = .ok (.iload_n 3, 1) := by decide +kernel
theorem dX6_leastOf_23 : decode cX6_leastOf 23 = .ok (.iaload, 1) := by decide +kernel
theorem dX6_leastOf_24 : decode cX6_leastOf 24 = .ok (.iload_n 1, 1) := by decide +kernel
theorem dX6_leastOf_25 : decode cX6_leastOf 25 = .ok (.if_icmp .ne 25, 3) := by decide +kernel
theorem dX6_leastOf_50 : decode cX6_leastOf 50 = .ok (.iinc 3 1, 3) := by decide +kernel
theorem dX6_leastOf_53 : decode cX6_leastOf 53 = .ok (.goto (-49), 3) := by decide +kernel
theorem dX6_leastOf_28 : decode cX6_leastOf 28 = .ok (.iload_n 2, 1) := by decide +kernel
theorem dX6_leastOf_29 : decode cX6_leastOf 29 = .ok (.iconst (-1), 1) := by decide +kernel
theorem dX6_leastOf_30 : decode cX6_leastOf 30 = .ok (.if_icmp .eq 18, 3) := by decide +kernel
theorem dX6_leastOf_48 : decode cX6_leastOf 48 = .ok (.iload_n 3, 1) := by decide +kernel
theorem dX6_leastOf_49 : decode cX6_leastOf 49 = .ok (.istore_n 2, 1) := by decide +kernel
theorem dX6_leastOf_33 : decode cX6_leastOf 33 = .ok (.aload_n 0, 1) := by decide +kernel
theorem dX6_leastOf_34 : decode cX6_leastOf 34 = .ok (.getfield 9, 3) := by decide +kernel
theorem dX6_leastOf_37 : decode cX6_leastOf 37 = .ok (.iload_n 3, 1) := by decide +kernel
theorem dX6_leastOf_38 : decode cX6_leastOf 38 = .ok (.iaload, 1) := by decide +kernel
theorem dX6_leastOf_39 : decode cX6_leastOf 39 = .ok (.aload_n 0, 1) := by decide +kernel
theorem dX6_leastOf_40 : decode cX6_leastOf 40 = .ok (.getfield 9, 3) := by decide +kernel
theorem dX6_leastOf_43 : decode cX6_leastOf 43 = .ok (.iload_n 2, 1) := by decide +kernel
theorem dX6_leastOf_44 : decode cX6_leastOf 44 = .ok (.iaload, 1) := by decide +kernel
theorem dX6_leastOf_45 : decode cX6_leastOf 45 = .ok (.if_icmp .ge 5, 3) := by decide +kernel

set_option maxHeartbeats 8000000 in
set_option maxRecDepth 100000 in
theorem c_X6_leastOf (l : Launch) (dC : Nat → ClassId) (dI : Nat → Nat → Nat) (g : Nat → ClassId) (Wd : va_W) (a_this : Nat) (a_memory : Nat) (a_runOf : Nat) (held : Int32) (runOf : Nat → Int32) (memory : Nat → Int32) (run : Int32) (k_this : Nat) (w_this : Wd[k_this]? = some (a_this, .inr (8, [.ref a_memory, .ref a_runOf, .int held]))) (k_runOf : Nat) (w_runOf : Wd[k_runOf]? = some (a_runOf, .inl (g 0, 50, .inl runOf))) (k_memory : Nat) (w_memory : Wd[k_memory]? = some (a_memory, .inl (g 0, 50, .inl memory))) (Q : Int32 → Prop) (hw : wp_X6_leastOf held runOf memory run Q) (sz : Nat) : Met l yX6_leastOf wqX6_leastOf ({ frames := 0, cells := 0, slots := 0, locals := 0 }) (va_Pc [.ref a_this, .int run] (PG (dC, dI) g Wd sz)) (va_Qi (fun (r : Int32) (u : Unit) => Q r) (fun (u : Unit) t9 => va_P (dC, dI) vwCl Wd t9.heap) (va_A Wd sz)) 0 0 (va_A Wd sz) := by
  refine Met.ofW (cc := cX6_leastOf) (maxL := 4) (ret := (some .int)) (by decide) rfl ?_
  intro p e s m args below meth c s₁ B hml hv
  obtain ⟨rfl, hsz, hP, hK, hD0, hG⟩ := hv
  have hx := B.exec
  have hb := B.bytes
  have hr := B.returns
  have hts := atoms_spec (ws := wqX6_leastOf) B.pre
  have hown : s.vm.findClass RX6 = some m.cls := findClass_of_methodNamed B.named
  have hlocks := B.notSynchronized
  subst hsz
  have hD := hD0.self (sz := s.heap.size)
  generalize hAe : va_A Wd s.heap.size = A at hD hG ⊢
  have hA : ∀ q : Nat, s.heap.size ≤ q → A q := fun q h => by rw [← hAe]; exact Or.inr h
  have hS : va_S A s.heap s.heap [] := va_S.rf
  have hl := lv_entry ([.ref a_this, .int run]) (n := 4) (Nat.le_of_ble_eq_true rfl)
  rw [lg_entry_eq]
  generalize (lg_sl ([.ref a_this, .int run]) ++ List.replicate (4 - (lg_sl ([.ref a_this, .int run])).length) Slot.unset).toArray = ls at hl ⊢
  have hl : lv_has ls 4 [(0, .ref a_this), (1, .int run)] := hl
  unfold wp_X6_leastOf at hw
  have hf18 := hts (Cond.fieldLink RX6 18 "RunmergeOffice$RunMaker" "held" "I") (aw_l aw_1_126)
  have hiX6 : ∀ w ∈ u_ws RX6 TX6 3, w ∈ wqX6_leastOf := fun w h => aw_l (aw_wsX60 w h)
  have hf15 := hts (Cond.fieldLink RX6 15 "RunmergeOffice$RunMaker" "runOf" "[I") (aw_l aw_1_125)
  have hf9 := hts (Cond.fieldLink RX6 9 "RunmergeOffice$RunMaker" "memory" "[I") (aw_l aw_1_124)
  refine lv_iconst (v := (-1)) hx hb dX6_leastOf_0 (by decide) ?_
  refine lv_istore_n (lv' := [(2, .int (-1)), (0, .ref a_this), (1, .int run)]) hx hb dX6_leastOf_1 rfl hl (by decide) rfl (fun ls hl => ?_)
  refine lv_iconst (v := 0) hx hb dX6_leastOf_2 (by decide) ?_
  refine lv_istore_n (lv' := [(3, .int 0), (2, .int (-1)), (0, .ref a_this), (1, .int run)]) hx hb dX6_leastOf_3 rfl hl (by decide) rfl (fun ls hl => ?_)
  refine W_abs (fun QM hQM => ?_)
  have EX4_56 : ∀ (v2_3 : Int32) (H : Heap) (locs : List Loc), (wx_X6_leastOf_4_56 Q) v2_3 → va_P (dC, dI) vwCl Wd H → va_S A s.heap H locs → ∀ (ls : Array Slot), lv_has ls 4 [(2, .int v2_3)] → W p l e (headSpec wqX6_leastOf ({ frames := 0, cells := 0, slots := 0, locals := 0 })).room s m ([.ref a_this, .int run] : List Value).toArray below meth c H locs 0 0 QM (F0 m 56 ls []) := by
    intro v2_3 H locs hw hP hS ls hl
    refine lv_iload_n hx hb dX6_leastOf_56 rfl (lv_at hl 0 rfl) ?_
    subst hQM
    exact W.iret (v := v2_3) hx hb hr (fun t ht hW => ⟨⟨v2_3, (), rfl, hw, P_at ht hP⟩, hS.F ht⟩) hS.2.2 dX6_leastOf_57
  have LOOP4 : ∀ (n4 : Nat) (v3_1 : Int32) (v2_2 : Int32) (H : Heap) (locs : List Loc), wl_X6_leastOf_4 held runOf memory run (wx_X6_leastOf_4_56 Q) n4 v3_1 v2_2 → va_P (dC, dI) vwCl Wd H → va_S A s.heap H locs → ∀ (ls : Array Slot), lv_has ls 4 [(0, .ref a_this), (1, .int run), (2, .int v2_2), (3, .int v3_1)] → W p l e (headSpec wqX6_leastOf ({ frames := 0, cells := 0, slots := 0, locals := 0 })).room s m ([.ref a_this, .int run] : List Value).toArray below meth c H locs 0 0 QM (F0 m 4 ls []) := by
    intro n4
    induction n4 with
    | zero =>
      intro v3_1 v2_2 H locs hw hP hS ls hl
      exact False.elim hw
    | succ n4 ih4 =>
      intro v3_1 v2_2 H locs hw hP hS ls hl
      rw [wl_X6_leastOf_4_s] at hw
      refine lv_iload_n hx hb dX6_leastOf_4 rfl (lv_at hl 3 rfl) ?_
      refine lv_aload_n hx hb dX6_leastOf_5 rfl (lv_at hl 0 rfl) ?_
      refine va_get (D := (dC, dI)) (ci := 8) (v := .int held) (C := RX6) (T := TX6) (N := 3) hx hb hts hiX6 hown hK hP k_this w_this rfl 2 (by decide) hf18 (fun _ h9 => h9) rfl dX6_leastOf_6 ?_
      refine lv_icmp_ge (tgt := 56) hx hb dX6_leastOf_9 (by decide) (fun c_4 => ?_) (fun c_4 => ?_)
      · have hw := hw.1 c_4
        exact EX4_56 v2_2 _ _ hw hP hS _ (lv_sub hl [2] rfl)
      · have hw := hw.2 c_4
        refine lv_iload_n hx hb dX6_leastOf_12 rfl (lv_at hl 3 rfl) ?_
        refine lv_bipush (v := 50) hx hb dX6_leastOf_13 (by decide) ?_
        refine lv_icmp_ge (tgt := 56) hx hb dX6_leastOf_15 (by decide) (fun c_5 => ?_) (fun c_5 => ?_)
        · have hw := hw.1 c_5
          exact EX4_56 v2_2 _ _ hw hP hS _ (lv_sub hl [2] rfl)
        · have hw := hw.2 c_5
          refine lv_aload_n hx hb dX6_leastOf_18 rfl (lv_at hl 0 rfl) ?_
          refine va_get (D := (dC, dI)) (ci := 8) (v := .ref a_runOf) (C := RX6) (T := TX6) (N := 3) hx hb hts hiX6 hown hK hP k_this w_this rfl 1 (by decide) hf15 (fun _ h9 => h9) rfl dX6_leastOf_19 ?_
          refine lv_iload_n hx hb dX6_leastOf_22 rfl (lv_at hl 3 rfl) ?_
          refine va_iald hx hb hK hP k_runOf 0 w_runOf rfl hw.1 dX6_leastOf_23 ?_
          have hw := hw.2
          refine lv_topi (fun x_6 ex_6 => ?_)
          have hw := hw x_6 ex_6
          refine lv_iload_n hx hb dX6_leastOf_24 rfl (lv_at hl 1 rfl) ?_
          refine lv_icmp_ne (tgt := 50) hx hb dX6_leastOf_25 (by decide) (fun c_7 => ?_) (fun c_7 => ?_)
          · have hw := hw.2 c_7
            obtain ⟨x_8, ex_8⟩ : ∃ y : Int32, y = v3_1 + 1 := ⟨_, rfl⟩
            have hw := hw x_8 ex_8
            refine lv_iinc (v := x_8) (lv' := [(3, .int x_8), (0, .ref a_this), (1, .int run), (2, .int v2_2)]) hx hb dX6_leastOf_50 hl (k := 3) rfl (by rw [ex_8]; rfl) (by decide) rfl (fun ls hl => ?_)
            refine lv_goto (tgt := 4) hx hb dX6_leastOf_53 (by decide) ?_
            exact ih4 x_8 v2_2 _ _ hw hP hS _ (lv_sub hl [1, 2, 3, 0] rfl)
          · have hw := hw.1 c_7
            refine lv_iload_n hx hb dX6_leastOf_28 rfl (lv_at hl 2 rfl) ?_
            refine lv_iconst (v := (-1)) hx hb dX6_leastOf_29 (by decide) ?_
            refine lv_icmp_eq (tgt := 48) hx hb dX6_leastOf_30 (by decide) (fun c_9 => ?_) (fun c_9 => ?_)
            · have hw := hw.1 c_9
              refine lv_iload_n hx hb dX6_leastOf_48 rfl (lv_at hl 3 rfl) ?_
              refine lv_istore_n (lv' := [(2, .int v3_1), (0, .ref a_this), (1, .int run), (3, .int v3_1)]) hx hb dX6_leastOf_49 rfl hl (by decide) rfl (fun ls hl => ?_)
              obtain ⟨x_10, ex_10⟩ : ∃ y : Int32, y = v3_1 + 1 := ⟨_, rfl⟩
              have hw := hw x_10 ex_10
              refine lv_iinc (v := x_10) (lv' := [(3, .int x_10), (2, .int v3_1), (0, .ref a_this), (1, .int run)]) hx hb dX6_leastOf_50 hl (k := 3) rfl (by rw [ex_10]; rfl) (by decide) rfl (fun ls hl => ?_)
              refine lv_goto (tgt := 4) hx hb dX6_leastOf_53 (by decide) ?_
              exact ih4 x_10 v3_1 _ _ hw hP hS _ (lv_sub hl [2, 3, 1, 0] rfl)
            · have hw := hw.2 c_9
              refine lv_aload_n hx hb dX6_leastOf_33 rfl (lv_at hl 0 rfl) ?_
              refine va_get (D := (dC, dI)) (ci := 8) (v := .ref a_memory) (C := RX6) (T := TX6) (N := 3) hx hb hts hiX6 hown hK hP k_this w_this rfl 0 (by decide) hf9 (fun _ h9 => h9) rfl dX6_leastOf_34 ?_
              refine lv_iload_n hx hb dX6_leastOf_37 rfl (lv_at hl 3 rfl) ?_
              refine va_iald hx hb hK hP k_memory 0 w_memory rfl hw.1 dX6_leastOf_38 ?_
              have hw := hw.2
              refine lv_topi (fun x_11 ex_11 => ?_)
              have hw := hw x_11 ex_11
              refine lv_aload_n hx hb dX6_leastOf_39 rfl (lv_at hl 0 rfl) ?_
              refine va_get (D := (dC, dI)) (ci := 8) (v := .ref a_memory) (C := RX6) (T := TX6) (N := 3) hx hb hts hiX6 hown hK hP k_this w_this rfl 0 (by decide) hf9 (fun _ h9 => h9) rfl dX6_leastOf_40 ?_
              refine lv_iload_n hx hb dX6_leastOf_43 rfl (lv_at hl 2 rfl) ?_
              refine va_iald hx hb hK hP k_memory 0 w_memory rfl hw.1 dX6_leastOf_44 ?_
              have hw := hw.2
              refine lv_topi (fun x_12 ex_12 => ?_)
              have hw := hw x_12 ex_12
              refine lv_icmp_ge (tgt := 50) hx hb dX6_leastOf_45 (by decide) (fun c_13 => ?_) (fun c_13 => ?_)
              · have hw := hw.1 c_13
                obtain ⟨x_14, ex_14⟩ : ∃ y : Int32, y = v3_1 + 1 := ⟨_, rfl⟩
                have hw := hw x_14 ex_14
                refine lv_iinc (v := x_14) (lv' := [(3, .int x_14), (0, .ref a_this), (1, .int run), (2, .int v2_2)]) hx hb dX6_leastOf_50 hl (k := 3) rfl (by rw [ex_14]; rfl) (by decide) rfl (fun ls hl => ?_)
                refine lv_goto (tgt := 4) hx hb dX6_leastOf_53 (by decide) ?_
                exact ih4 x_14 v2_2 _ _ hw hP hS _ (lv_sub hl [1, 2, 3, 0] rfl)
              · have hw := hw.2 c_13
                refine lv_iload_n hx hb dX6_leastOf_48 rfl (lv_at hl 3 rfl) ?_
                refine lv_istore_n (lv' := [(2, .int v3_1), (0, .ref a_this), (1, .int run), (3, .int v3_1)]) hx hb dX6_leastOf_49 rfl hl (by decide) rfl (fun ls hl => ?_)
                obtain ⟨x_15, ex_15⟩ : ∃ y : Int32, y = v3_1 + 1 := ⟨_, rfl⟩
                have hw := hw x_15 ex_15
                refine lv_iinc (v := x_15) (lv' := [(3, .int x_15), (2, .int v3_1), (0, .ref a_this), (1, .int run)]) hx hb dX6_leastOf_50 hl (k := 3) rfl (by rw [ex_15]; rfl) (by decide) rfl (fun ls hl => ?_)
                refine lv_goto (tgt := 4) hx hb dX6_leastOf_53 (by decide) ?_
                exact ih4 x_15 v3_1 _ _ hw hP hS _ (lv_sub hl [2, 3, 1, 0] rfl)
  obtain ⟨n4, hw⟩ := hw
  exact LOOP4 n4 0 (-1) _ _ hw hP hS _ (lv_sub hl [2, 3, 1, 0] rfl)
theorem dX6_makeFull_0 : decode cX6_makeFull 0 = .ok (.aload_n 0, 1) := by decide +kernel
theorem dX6_makeFull_1 : decode cX6_makeFull 1 = .ok (.iconst 0, 1) := by decide +kernel
theorem dX6_makeFull_2 : decode cX6_makeFull 2 = .ok (.putfield 18, 3) := by decide +kernel
theorem dX6_makeFull_5 : decode cX6_makeFull 5 = .ok (.iconst 0, 1) := by decide +kernel
theorem dX6_makeFull_6 : decode cX6_makeFull 6 = .ok (.istore 6, 2) := by decide +kernel
theorem dX6_makeFull_105 : decode cX6_makeFull 105 = .ok (.return_, 1) := by decide +kernel
theorem dX6_makeFull_8 : decode cX6_makeFull 8 = .ok (.iload 6, 2) := by decide +kernel
theorem dX6_makeFull_10 : decode cX6_makeFull 10 = .ok (.aload_n 2, 1) := by decide +kernel
theorem dX6_makeFull_11 : decode cX6_makeFull 11 = .ok (.getfield 57, 3) := by decide +kernel
theorem dX6_makeFull_14 : decode cX6_makeFull 14 = .ok (.if_icmp .ge 91, 3) := by decide +kernel
theorem dX6_makeFull_17 : decode cX6_makeFull 17 = .ok (.aload_n 0, 1) := by decide +kernel
theorem dX6_makeFull_18 : decode cX6_makeFull 18 = .ok (.aload_n 1, 1) := by decide +kernel
theorem dX6_makeFull_19 : decode cX6_makeFull 19 = .ok (.aload_n 2, 1) := by decide +kernel
theorem dX6_makeFull_20 : decode cX6_makeFull 20 = .ok (.iload 6, 2) := by decide +kernel
theorem dX6_makeFull_22 : decode cX6_makeFull 22 = .ok (.invokevirtual 62, 3) := by decide +kernel
theorem dX6_makeFull_25 : decode cX6_makeFull 25 = .ok (.iload_n 3, 1) := by decide +kernel
theorem dX6_makeFull_26 : decode cX6_makeFull 26 = .ok (.invokevirtual 66, 3) := by decide +kernel
theorem dX6_makeFull_29 : decode cX6_makeFull 29 = .ok (.invokevirtual 71, 3) := by decide +kernel
theorem dX6_makeFull_32 : decode cX6_makeFull 32 = .ok (.aload_n 0, 1) := by decide +kernel
theorem dX6_makeFull_33 : decode cX6_makeFull 33 = .ok (.getfield 18, 3) := by decide +kernel
theorem dX6_makeFull_36 : decode cX6_makeFull 36 = .ok (.iload 4, 2) := by decide +kernel
theorem dX6_makeFull_52 : decode cX6_makeFull 52 = .ok (.aload 5, 2) := by decide +kernel
theorem dX6_makeFull_54 : decode cX6_makeFull 54 = .ok (.invokevirtual 75, 3) := by decide +kernel
theorem dX6_makeFull_57 : decode cX6_makeFull 57 = .ok (.iconst 0, 1) := by decide +kernel
theorem dX6_makeFull_58 : decode cX6_makeFull 58 = .ok (.istore 7, 2) := by decide +kernel
theorem dX6_makeFull_94 : decode cX6_makeFull 94 = .ok (.aload_n 0, 1) := by decide +kernel
theorem dX6_makeFull_95 : decode cX6_makeFull 95 = .ok (.iconst 0, 1) := by decide +kernel
theorem dX6_makeFull_96 : decode cX6_makeFull 96 = .ok (.putfield 18, 3) := by decide +kernel
theorem dX6_makeFull_99 : decode cX6_makeFull 99 = .ok (.iinc 6 1, 3) := by decide +kernel
theorem dX6_makeFull_102 : decode cX6_makeFull 102 = .ok (.goto (-94), 3) := by decide +kernel
theorem dX6_makeFull_60 : decode cX6_makeFull 60 = .ok (.iload 7, 2) := by decide +kernel
theorem dX6_makeFull_62 : decode cX6_makeFull 62 = .ok (.aload_n 0, 1) := by decide +kernel
theorem dX6_makeFull_63 : decode cX6_makeFull 63 = .ok (.getfield 18, 3) := by decide +kernel
theorem dX6_makeFull_66 : decode cX6_makeFull 66 = .ok (.if_icmp .ge 28, 3) := by decide +kernel
theorem dX6_makeFull_69 : decode cX6_makeFull 69 = .ok (.iload 7, 2) := by decide +kernel
theorem dX6_makeFull_71 : decode cX6_makeFull 71 = .ok (.bipush 50, 2) := by decide +kernel
theorem dX6_makeFull_73 : decode cX6_makeFull 73 = .ok (.if_icmp .ge 21, 3) := by decide +kernel
theorem dX6_makeFull_76 : decode cX6_makeFull 76 = .ok (.aload 5, 2) := by decide +kernel
theorem dX6_makeFull_78 : decode cX6_makeFull 78 = .ok (.aload_n 0, 1) := by decide +kernel
theorem dX6_makeFull_79 : decode cX6_makeFull 79 = .ok (.getfield 9, 3) := by decide +kernel
theorem dX6_makeFull_82 : decode cX6_makeFull 82 = .ok (.iload 7, 2) := by decide +kernel
theorem dX6_makeFull_84 : decode cX6_makeFull 84 = .ok (.iaload, 1) := by decide +kernel
theorem dX6_makeFull_85 : decode cX6_makeFull 85 = .ok (.invokevirtual 78, 3) := by decide +kernel
theorem dX6_makeFull_88 : decode cX6_makeFull 88 = .ok (.iinc 7 1, 3) := by decide +kernel
theorem dX6_makeFull_91 : decode cX6_makeFull 91 = .ok (.goto (-31), 3) := by decide +kernel
theorem dX6_makeFull_38 : decode cX6_makeFull 38 = .ok (.if_icmp .ge 14, 3) := by decide +kernel
theorem dX6_makeFull_41 : decode cX6_makeFull 41 = .ok (.iload 6, 2) := by decide +kernel
theorem dX6_makeFull_43 : decode cX6_makeFull 43 = .ok (.aload_n 2, 1) := by decide +kernel
theorem dX6_makeFull_44 : decode cX6_makeFull 44 = .ok (.getfield 57, 3) := by decide +kernel
theorem dX6_makeFull_47 : decode cX6_makeFull 47 = .ok (.iconst 1, 1) := by decide +kernel
theorem dX6_makeFull_48 : decode cX6_makeFull 48 = .ok (.isub, 1) := by decide +kernel
theorem dX6_makeFull_49 : decode cX6_makeFull 49 = .ok (.if_icmp .ne 50, 3) := by decide +kernel
abbrev Wa_X6_makeFull (g : Nat → ClassId) (tp : Nat → Nat) (hd : Nat → Nat) (a_this : Nat) (a_book : Nat) (a_into : Nat) (a_memory : Nat) (a_runOf : Nat) (held : Int32) (memory : Nat → Int32) (a_book_allKeys : Nat) (a_book_allMarks : Nat) (book_count : Int32) (book_allKeys : Nat → Int32) (a_into_ranks : Nat) (a_into_starts : Nat) (a_into_lengths : Nat) (into_count : Int32) (into_filled : Int32) (into_starts : Nat → Int32) (into_lengths : Nat → Int32) (into_ranks : Nat → Int32) (F_ : Nat → Nat → Int32) (n_ : Nat → Int32) : va_W := ([(a_this, .inr (8, [.ref a_memory, .ref a_runOf, .int held])), (a_memory, .inl (g 0, 50, .inl memory)), (a_book, .inr (2, [.ref a_book_allKeys, .ref a_book_allMarks, .int book_count])), (a_book_allKeys, .inl (g 0, 200, .inl book_allKeys)), (a_into, .inr (9, [.ref a_into_ranks, .ref a_into_starts, .ref a_into_lengths, .int into_count, .int into_filled])), (a_into_starts, .inl (g 0, 200, .inl into_starts)), (a_into_lengths, .inl (g 0, 200, .inl into_lengths)), (a_into_ranks, .inl (g 0, 100, .inl into_ranks))] ++ TPl tp hd (g 0) F_ n_)
abbrev Wb_X6_makeFull (g : Nat → ClassId) (tp : Nat → Nat) (hd : Nat → Nat) (a_this : Nat) (a_book : Nat) (a_into : Nat) (a_memory : Nat) (a_runOf : Nat) (a_book_allKeys : Nat) (a_book_allMarks : Nat) (book_count : Int32) (book_allKeys : Nat → Int32) (a_into_ranks : Nat) (a_into_starts : Nat) (a_into_lengths : Nat) (F_ : Nat → Nat → Int32) (n_ : Nat → Int32) (u : Int32 × (Nat → Int32) × Int32 × Int32 × (Nat → Int32) × (Nat → Int32) × (Nat → Int32) × Unit) : va_W := ([(a_this, .inr (8, [.ref a_memory, .ref a_runOf, .int u.1])), (a_memory, .inl (g 0, 50, .inl u.2.1)), (a_book, .inr (2, [.ref a_book_allKeys, .ref a_book_allMarks, .int book_count])), (a_book_allKeys, .inl (g 0, 200, .inl book_allKeys)), (a_into, .inr (9, [.ref a_into_ranks, .ref a_into_starts, .ref a_into_lengths, .int u.2.2.1, .int u.2.2.2.1])), (a_into_starts, .inl (g 0, 200, .inl u.2.2.2.2.1)), (a_into_lengths, .inl (g 0, 200, .inl u.2.2.2.2.2.1)), (a_into_ranks, .inl (g 0, 100, .inl u.2.2.2.2.2.2.1))] ++ TPl tp hd (g 0) F_ n_)
set_option maxHeartbeats 8000000 in
set_option maxRecDepth 100000 in
theorem c_X6_makeFull (l : Launch) (dC : Nat → ClassId) (dI : Nat → Nat → Nat) (g : Nat → ClassId) (tp hd : Nat → Nat) (a_this : Nat) (a_book : Nat) (a_into : Nat) (a_memory : Nat) (a_runOf : Nat) (held : Int32) (memory : Nat → Int32) (a_book_allKeys : Nat) (a_book_allMarks : Nat) (book_count : Int32) (book_allKeys : Nat → Int32) (a_into_ranks : Nat) (a_into_starts : Nat) (a_into_lengths : Nat) (into_count : Int32) (into_filled : Int32) (into_starts : Nat → Int32) (into_lengths : Nat → Int32) (into_ranks : Nat → Int32) (F_ : Nat → Nat → Int32) (n_ : Nat → Int32) (tape : Nat) (order : Int32) (room : Int32) (hj_tape : tape < 18) (Q : Int32 → (Nat → Int32) → Int32 → Int32 → (Nat → Int32) → (Nat → Int32) → (Nat → Int32) → Prop) (hw : wp_X6_makeFull memory book_allKeys into_count into_filled into_starts into_lengths into_ranks tape order room F_ n_ Q) (sz : Nat) : Met l yX6_makeFull wqX6_makeFull ({ frames := 1, cells := 0, slots := 0, locals := 23 }) (va_Pc [.ref a_this, .ref a_book, .ref (tp tape), .int order, .int room, .ref a_into] (PG (dC, dI) g (Wa_X6_makeFull g tp hd a_this a_book a_into a_memory a_runOf held memory a_book_allKeys a_book_allMarks book_count book_allKeys a_into_ranks a_into_starts a_into_lengths into_count into_filled into_starts into_lengths into_ranks F_ n_) sz)) (va_Qv (fun (u : Int32 × (Nat → Int32) × Int32 × Int32 × (Nat → Int32) × (Nat → Int32) × (Nat → Int32) × Unit) => Q u.1 u.2.1 u.2.2.1 u.2.2.2.1 u.2.2.2.2.1 u.2.2.2.2.2.1 u.2.2.2.2.2.2.1) (fun (u : Int32 × (Nat → Int32) × Int32 × Int32 × (Nat → Int32) × (Nat → Int32) × (Nat → Int32) × Unit) t9 => va_P (dC, dI) vwCl (Wb_X6_makeFull g tp hd a_this a_book a_into a_memory a_runOf a_book_allKeys a_book_allMarks book_count book_allKeys a_into_ranks a_into_starts a_into_lengths F_ n_ u) t9.heap ∧ va_D (va_A (Wa_X6_makeFull g tp hd a_this a_book a_into a_memory a_runOf held memory a_book_allKeys a_book_allMarks book_count book_allKeys a_into_ranks a_into_starts a_into_lengths into_count into_filled into_starts into_lengths into_ranks F_ n_) sz) (Wb_X6_makeFull g tp hd a_this a_book a_into a_memory a_runOf a_book_allKeys a_book_allMarks book_count book_allKeys a_into_ranks a_into_starts a_into_lengths F_ n_ u)) (va_A (Wa_X6_makeFull g tp hd a_this a_book a_into a_memory a_runOf held memory a_book_allKeys a_book_allMarks book_count book_allKeys a_into_ranks a_into_starts a_into_lengths into_count into_filled into_starts into_lengths into_ranks F_ n_) sz)) 0 0 (va_A (Wa_X6_makeFull g tp hd a_this a_book a_into a_memory a_runOf held memory a_book_allKeys a_book_allMarks book_count book_allKeys a_into_ranks a_into_starts a_into_lengths into_count into_filled into_starts into_lengths into_ranks F_ n_) sz) := by
  refine Met.ofW (cc := cX6_makeFull) (maxL := 8) (ret := none) (by decide) rfl ?_
  intro p e s m args below meth c s₁ B hml hv
  obtain ⟨rfl, hsz, hP, hK, hD0, hG⟩ := hv
  have hx := B.exec
  have hb := B.bytes
  have hr := B.returns
  have hts := atoms_spec (ws := wqX6_makeFull) B.pre
  have hown : s.vm.findClass RX6 = some m.cls := findClass_of_methodNamed B.named
  have hlocks := B.notSynchronized
  subst hsz
  have hD := hD0.self (sz := s.heap.size)
  generalize hAe : va_A (Wa_X6_makeFull g tp hd a_this a_book a_into a_memory a_runOf held memory a_book_allKeys a_book_allMarks book_count book_allKeys a_into_ranks a_into_starts a_into_lengths into_count into_filled into_starts into_lengths into_ranks F_ n_) s.heap.size = A at hD hG ⊢
  have hA : ∀ q : Nat, s.heap.size ≤ q → A q := fun q h => by rw [← hAe]; exact Or.inr h
  have hS : va_S A s.heap s.heap [] := va_S.rf
  have hl := lv_entry ([.ref a_this, .ref a_book, .ref (tp tape), .int order, .int room, .ref a_into]) (n := 8) (Nat.le_of_ble_eq_true rfl)
  rw [lg_entry_eq]
  generalize (lg_sl ([.ref a_this, .ref a_book, .ref (tp tape), .int order, .int room, .ref a_into]) ++ List.replicate (8 - (lg_sl ([.ref a_this, .ref a_book, .ref (tp tape), .int order, .int room, .ref a_into])).length) Slot.unset).toArray = ls at hl ⊢
  have hl : lv_has ls 8 [(0, .ref a_this), (1, .ref a_book), (2, .ref (tp tape)), (3, .int order), (4, .int room), (5, .ref a_into)] := hl
  unfold wp_X6_makeFull at hw
  have hf18 := hts (Cond.fieldLink RX6 18 "RunmergeOffice$RunMaker" "held" "I") (aw_l aw_1_126)
  have hiX6 : ∀ w ∈ u_ws RX6 TX6 3, w ∈ wqX6_makeFull := fun w h => aw_l (aw_wsX60 w h)
  have hiX9 : ∀ w ∈ u_ws RX9 TX9 2, w ∈ wqX6_makeFull := fun w h => aw_l (aw_wsX90 w h)
  have hf9 := hts (Cond.fieldLink RX6 9 "RunmergeOffice$RunMaker" "memory" "[I") (aw_l aw_1_124)
  refine lv_aload_n hx hb dX6_makeFull_0 rfl (lv_at hl 0 rfl) ?_
  refine lv_iconst (v := 0) hx hb dX6_makeFull_1 (by decide) ?_
  refine va_put (D := (dC, dI)) (ci := 8) (v := .int 0) (ty := .int) (C := RX6) (T := TX6) (N := 3) hx hb hts hiX6 tyX6 tyX6_ok nmX6 hown hK hP hD hS 0 rfl rfl 2 (by decide) hf18 (fun _ h9 => h9) rfl (by decide +kernel) rfl rfl (Nat.le_of_ble_eq_true rfl) dX6_makeFull_2 (fun H_1 L_2 hP hD hS => ?_)
  have hP : va_P (dC, dI) vwCl ([(a_this, .inr (8, [.ref a_memory, .ref a_runOf, .int 0])), (a_memory, .inl (g 0, 50, .inl memory)), (a_book, .inr (2, [.ref a_book_allKeys, .ref a_book_allMarks, .int book_count])), (a_book_allKeys, .inl (g 0, 200, .inl book_allKeys)), (a_into, .inr (9, [.ref a_into_ranks, .ref a_into_starts, .ref a_into_lengths, .int into_count, .int into_filled])), (a_into_starts, .inl (g 0, 200, .inl into_starts)), (a_into_lengths, .inl (g 0, 200, .inl into_lengths)), (a_into_ranks, .inl (g 0, 100, .inl into_ranks))] ++ TPl tp hd (g 0) F_ n_) H_1 := hP
  have hD : va_D A ([(a_this, .inr (8, [.ref a_memory, .ref a_runOf, .int 0])), (a_memory, .inl (g 0, 50, .inl memory)), (a_book, .inr (2, [.ref a_book_allKeys, .ref a_book_allMarks, .int book_count])), (a_book_allKeys, .inl (g 0, 200, .inl book_allKeys)), (a_into, .inr (9, [.ref a_into_ranks, .ref a_into_starts, .ref a_into_lengths, .int into_count, .int into_filled])), (a_into_starts, .inl (g 0, 200, .inl into_starts)), (a_into_lengths, .inl (g 0, 200, .inl into_lengths)), (a_into_ranks, .inl (g 0, 100, .inl into_ranks))] ++ TPl tp hd (g 0) F_ n_) := hD
  refine lv_iconst (v := 0) hx hb dX6_makeFull_5 (by decide) ?_
  refine lv_istore (lv' := [(6, .int 0), (0, .ref a_this), (1, .ref a_book), (2, .ref (tp tape)), (3, .int order), (4, .int room), (5, .ref a_into)]) hx hb dX6_makeFull_6 hl (by decide) rfl (fun ls hl => ?_)
  refine W_abs (fun QM hQM => ?_)
  have EX8_105 : ∀ (memory_11 : Nat → Int32) (into_count_12 : Int32) (into_starts_13 : Nat → Int32) (into_lengths_14 : Nat → Int32) (into_filled_15 : Int32) (into_ranks_16 : Nat → Int32) (held_17 : Int32) (H : Heap) (locs : List Loc), (wx_X6_makeFull_8_105 Q) memory_11 into_count_12 into_starts_13 into_lengths_14 into_filled_15 into_ranks_16 held_17 → va_P (dC, dI) vwCl ([(a_this, .inr (8, [.ref a_memory, .ref a_runOf, .int held_17])), (a_memory, .inl (g 0, 50, .inl memory_11)), (a_book, .inr (2, [.ref a_book_allKeys, .ref a_book_allMarks, .int book_count])), (a_book_allKeys, .inl (g 0, 200, .inl book_allKeys)), (a_into, .inr (9, [.ref a_into_ranks, .ref a_into_starts, .ref a_into_lengths, .int into_count_12, .int into_filled_15])), (a_into_starts, .inl (g 0, 200, .inl into_starts_13)), (a_into_lengths, .inl (g 0, 200, .inl into_lengths_14)), (a_into_ranks, .inl (g 0, 100, .inl into_ranks_16))] ++ TPl tp hd (g 0) F_ n_) H → va_D A ([(a_this, .inr (8, [.ref a_memory, .ref a_runOf, .int held_17])), (a_memory, .inl (g 0, 50, .inl memory_11)), (a_book, .inr (2, [.ref a_book_allKeys, .ref a_book_allMarks, .int book_count])), (a_book_allKeys, .inl (g 0, 200, .inl book_allKeys)), (a_into, .inr (9, [.ref a_into_ranks, .ref a_into_starts, .ref a_into_lengths, .int into_count_12, .int into_filled_15])), (a_into_starts, .inl (g 0, 200, .inl into_starts_13)), (a_into_lengths, .inl (g 0, 200, .inl into_lengths_14)), (a_into_ranks, .inl (g 0, 100, .inl into_ranks_16))] ++ TPl tp hd (g 0) F_ n_) → va_S A s.heap H locs → ∀ (ls : Array Slot), lv_has ls 8 [] → W p l e (headSpec wqX6_makeFull ({ frames := 1, cells := 0, slots := 0, locals := 23 })).room s m ([.ref a_this, .ref a_book, .ref (tp tape), .int order, .int room, .ref a_into] : List Value).toArray below meth c H locs 0 0 QM (F0 m 105 ls []) := by
    intro memory_11 into_count_12 into_starts_13 into_lengths_14 into_filled_15 into_ranks_16 held_17 H locs hw hP hD hS ls hl
    subst hQM
    have hP9 := va_P.part (cx := [(a_this, .inr (8, [.ref a_memory, .ref a_runOf, .int held_17])), (a_memory, .inl (g 0, 50, .inl memory_11)), (a_book, .inr (2, [.ref a_book_allKeys, .ref a_book_allMarks, .int book_count])), (a_book_allKeys, .inl (g 0, 200, .inl book_allKeys)), (a_into, .inr (9, [.ref a_into_ranks, .ref a_into_starts, .ref a_into_lengths, .int into_count_12, .int into_filled_15])), (a_into_starts, .inl (g 0, 200, .inl into_starts_13)), (a_into_lengths, .inl (g 0, 200, .inl into_lengths_14)), (a_into_ranks, .inl (g 0, 100, .inl into_ranks_16))]) hP [0, 1, 2, 3, 4, 5, 6, 7] rfl
    have hD9 := va_D.part (cx := [(a_this, .inr (8, [.ref a_memory, .ref a_runOf, .int held_17])), (a_memory, .inl (g 0, 50, .inl memory_11)), (a_book, .inr (2, [.ref a_book_allKeys, .ref a_book_allMarks, .int book_count])), (a_book_allKeys, .inl (g 0, 200, .inl book_allKeys)), (a_into, .inr (9, [.ref a_into_ranks, .ref a_into_starts, .ref a_into_lengths, .int into_count_12, .int into_filled_15])), (a_into_starts, .inl (g 0, 200, .inl into_starts_13)), (a_into_lengths, .inl (g 0, 200, .inl into_lengths_14)), (a_into_ranks, .inl (g 0, 100, .inl into_ranks_16))]) hD [0, 1, 2, 3, 4, 5, 6, 7] (by decide) rfl
    exact W.vret hx hb hr (fun t ht hW => ⟨⟨(held_17, memory_11, into_count_12, into_filled_15, into_starts_13, into_lengths_14, into_ranks_16, ()), rfl, hw, ⟨P_at ht hP9, hD9⟩⟩, hS.F ht⟩) hS.2.2 dX6_makeFull_105
  have LOOP8 : ∀ (n8 : Nat) (v6_3 : Int32) (memory_4 : Nat → Int32) (into_count_5 : Int32) (into_starts_6 : Nat → Int32) (into_lengths_7 : Nat → Int32) (into_filled_8 : Int32) (into_ranks_9 : Nat → Int32) (held_10 : Int32) (H : Heap) (locs : List Loc), wl_X6_makeFull_8 book_allKeys tape order room F_ n_ (wx_X6_makeFull_8_105 Q) n8 v6_3 memory_4 into_count_5 into_starts_6 into_lengths_7 into_filled_8 into_ranks_9 held_10 → va_P (dC, dI) vwCl ([(a_this, .inr (8, [.ref a_memory, .ref a_runOf, .int held_10])), (a_memory, .inl (g 0, 50, .inl memory_4)), (a_book, .inr (2, [.ref a_book_allKeys, .ref a_book_allMarks, .int book_count])), (a_book_allKeys, .inl (g 0, 200, .inl book_allKeys)), (a_into, .inr (9, [.ref a_into_ranks, .ref a_into_starts, .ref a_into_lengths, .int into_count_5, .int into_filled_8])), (a_into_starts, .inl (g 0, 200, .inl into_starts_6)), (a_into_lengths, .inl (g 0, 200, .inl into_lengths_7)), (a_into_ranks, .inl (g 0, 100, .inl into_ranks_9))] ++ TPl tp hd (g 0) F_ n_) H → va_D A ([(a_this, .inr (8, [.ref a_memory, .ref a_runOf, .int held_10])), (a_memory, .inl (g 0, 50, .inl memory_4)), (a_book, .inr (2, [.ref a_book_allKeys, .ref a_book_allMarks, .int book_count])), (a_book_allKeys, .inl (g 0, 200, .inl book_allKeys)), (a_into, .inr (9, [.ref a_into_ranks, .ref a_into_starts, .ref a_into_lengths, .int into_count_5, .int into_filled_8])), (a_into_starts, .inl (g 0, 200, .inl into_starts_6)), (a_into_lengths, .inl (g 0, 200, .inl into_lengths_7)), (a_into_ranks, .inl (g 0, 100, .inl into_ranks_9))] ++ TPl tp hd (g 0) F_ n_) → va_S A s.heap H locs → ∀ (ls : Array Slot), lv_has ls 8 [(0, .ref a_this), (1, .ref a_book), (2, .ref (tp tape)), (3, .int order), (4, .int room), (5, .ref a_into), (6, .int v6_3)] → W p l e (headSpec wqX6_makeFull ({ frames := 1, cells := 0, slots := 0, locals := 23 })).room s m ([.ref a_this, .ref a_book, .ref (tp tape), .int order, .int room, .ref a_into] : List Value).toArray below meth c H locs 0 0 QM (F0 m 8 ls []) := by
    intro n8
    induction n8 with
    | zero =>
      intro v6_3 memory_4 into_count_5 into_starts_6 into_lengths_7 into_filled_8 into_ranks_9 held_10 H locs hw hP hD hS ls hl
      exact False.elim hw
    | succ n8 ih8 =>
      intro v6_3 memory_4 into_count_5 into_starts_6 into_lengths_7 into_filled_8 into_ranks_9 held_10 H locs hw hP hD hS ls hl
      rw [wl_X6_makeFull_8_s] at hw
      refine lv_iload hx hb dX6_makeFull_8 (lv_at hl 6 rfl) ?_
      refine lv_aload_n hx hb dX6_makeFull_10 rfl (lv_at hl 2 rfl) ?_
      refine va_getN (D := (dC, dI)) (ci := 11) (v := .int (n_ tape)) (C := RX9) (T := TX9) (N := 2) hx hb hts hiX9 hown hK hP _ (TP_o hj_tape) rfl 1 (by decide) (nf_2 hG) (fun _ h9 => h9) rfl dX6_makeFull_11 ?_
      refine lv_icmp_ge (tgt := 105) hx hb dX6_makeFull_14 (by decide) (fun c_18 => ?_) (fun c_18 => ?_)
      · have hw := hw.1 c_18
        exact EX8_105 memory_4 into_count_5 into_starts_6 into_lengths_7 into_filled_8 into_ranks_9 held_10 _ _ hw (hP.part [0, 1, 2, 3, 4, 5, 6, 7] rfl) (hD.part [0, 1, 2, 3, 4, 5, 6, 7] (by decide) rfl) hS _ (lv_sub hl [] rfl)
      · have hw := hw.2 c_18
        refine lv_aload_n hx hb dX6_makeFull_17 rfl (lv_at hl 0 rfl) ?_
        refine lv_aload_n hx hb dX6_makeFull_18 rfl (lv_at hl 1 rfl) ?_
        refine lv_aload_n hx hb dX6_makeFull_19 rfl (lv_at hl 2 rfl) ?_
        refine lv_iload hx hb dX6_makeFull_20 (lv_at hl 6 rfl) ?_
        refine va_calli (va_runV (As := [.int v6_3]) (rest := [.ref a_book, .ref a_this]) ⟨hx, hb, hml, hown, hts⟩ (c_X9_recordAt l dC dI g tp hd (Wd := ([(a_this, .inr (8, [.ref a_memory, .ref a_runOf, .int held_10])), (a_memory, .inl (g 0, 50, .inl memory_4)), (a_book, .inr (2, [.ref a_book_allKeys, .ref a_book_allMarks, .int book_count])), (a_book_allKeys, .inl (g 0, 200, .inl book_allKeys)), (a_into, .inr (9, [.ref a_into_ranks, .ref a_into_starts, .ref a_into_lengths, .int into_count_5, .int into_filled_8])), (a_into_starts, .inl (g 0, 200, .inl into_starts_6)), (a_into_lengths, .inl (g 0, 200, .inl into_lengths_7)), (a_into_ranks, .inl (g 0, 100, .inl into_ranks_9))] ++ TPl tp hd (g 0) F_ n_)) (F_ := F_) (n_ := n_) (j := tape) (place := v6_3) (hj_j := hj_tape) (kT := _) (hT := TP_at) (hw := hw) (sz := H.size)) (cwV 1 hts (gqV aw_3_197 aw_3_171 aw_3_172 aw_1_3 aw_3_173) rfl rfl rfl (by decide +kernel) ⟨Nat.le_of_ble_eq_true rfl, Nat.le_of_ble_eq_true rfl⟩) ⟨PG_blind, va_recv hK hP (ci := 11) (q0 := _) rfl (TP_o hj_tape), PG_call hK hG hS hP hD (A_all hD hA hS.1)⟩ rfl rfl hl.1 rfl (lv_room (Nat.le_of_ble_eq_true rfl)) dX6_makeFull_22 ⟨Nat.le_of_ble_eq_true rfl, Nat.le_of_ble_eq_true rfl⟩) hS (fun q _ h => (A_all hD hA hS.1) q h) (A_all hD hA hS.1) (fun r_19 u_19 t_19 H_19 L_19 ht_19 hvm_19 hw_19 hB_19 hz_19 hk_19 hS => ?_)
        rw [ht_19] at hB_19
        have hP : va_P (dC, dI) vwCl ([(a_this, .inr (8, [.ref a_memory, .ref a_runOf, .int held_10])), (a_memory, .inl (g 0, 50, .inl memory_4)), (a_book, .inr (2, [.ref a_book_allKeys, .ref a_book_allMarks, .int book_count])), (a_book_allKeys, .inl (g 0, 200, .inl book_allKeys)), (a_into, .inr (9, [.ref a_into_ranks, .ref a_into_starts, .ref a_into_lengths, .int into_count_5, .int into_filled_8])), (a_into_starts, .inl (g 0, 200, .inl into_starts_6)), (a_into_lengths, .inl (g 0, 200, .inl into_lengths_7)), (a_into_ranks, .inl (g 0, 100, .inl into_ranks_9))] ++ TPl tp hd (g 0) F_ n_) H_19 := hB_19
        have hw := hw_19
        refine lv_iload_n hx hb dX6_makeFull_25 rfl (lv_at hl 3 rfl) ?_
        refine va_calli (va_runV (As := [.int r_19, .int order]) (rest := [.ref a_this]) ⟨hx, hb, hml, hown, hts⟩ (c_X0_rankOf l dC dI g (Wd := ([(a_this, .inr (8, [.ref a_memory, .ref a_runOf, .int held_10])), (a_memory, .inl (g 0, 50, .inl memory_4)), (a_book, .inr (2, [.ref a_book_allKeys, .ref a_book_allMarks, .int book_count])), (a_book_allKeys, .inl (g 0, 200, .inl book_allKeys)), (a_into, .inr (9, [.ref a_into_ranks, .ref a_into_starts, .ref a_into_lengths, .int into_count_5, .int into_filled_8])), (a_into_starts, .inl (g 0, 200, .inl into_starts_6)), (a_into_lengths, .inl (g 0, 200, .inl into_lengths_7)), (a_into_ranks, .inl (g 0, 100, .inl into_ranks_9))] ++ TPl tp hd (g 0) F_ n_)) (a_this := a_book) (a_allKeys := a_book_allKeys) (a_allMarks := a_book_allMarks) (count := book_count) (allKeys := book_allKeys) (record := r_19) (order := order) (k_this := 2) (w_this := rfl) (k_allKeys := 3) (w_allKeys := rfl) (hw := hw) (sz := H_19.size)) (cwV 2 hts (gqV aw_3_198 aw_3_199 aw_3_200 aw_1_2 aw_3_201) rfl rfl rfl (by decide +kernel) ⟨Nat.le_of_ble_eq_true rfl, Nat.le_of_ble_eq_true rfl⟩) ⟨PG_blind, va_recv hK hP (ci := 2) (q0 := 2) rfl rfl, PG_call hK hG hS hP hD (A_all hD hA hS.1)⟩ rfl rfl hl.1 rfl (lv_room (Nat.le_of_ble_eq_true rfl)) dX6_makeFull_26 ⟨Nat.le_of_ble_eq_true rfl, Nat.le_of_ble_eq_true rfl⟩) hS (fun q _ h => (A_all hD hA hS.1) q h) (A_all hD hA hS.1) (fun r_20 u_20 t_20 H_20 L_20 ht_20 hvm_20 hw_20 hB_20 hz_20 hk_20 hS => ?_)
        rw [ht_20] at hB_20
        have hP : va_P (dC, dI) vwCl ([(a_this, .inr (8, [.ref a_memory, .ref a_runOf, .int held_10])), (a_memory, .inl (g 0, 50, .inl memory_4)), (a_book, .inr (2, [.ref a_book_allKeys, .ref a_book_allMarks, .int book_count])), (a_book_allKeys, .inl (g 0, 200, .inl book_allKeys)), (a_into, .inr (9, [.ref a_into_ranks, .ref a_into_starts, .ref a_into_lengths, .int into_count_5, .int into_filled_8])), (a_into_starts, .inl (g 0, 200, .inl into_starts_6)), (a_into_lengths, .inl (g 0, 200, .inl into_lengths_7)), (a_into_ranks, .inl (g 0, 100, .inl into_ranks_9))] ++ TPl tp hd (g 0) F_ n_) H_20 := hB_20
        have hw := hw_20
        have hPc := hP.sub (ws' := [(a_this, .inr (8, [.ref a_memory, .ref a_runOf, .int held_10])), (a_memory, .inl (g 0, 50, .inl memory_4))]) [0, 1] rfl
        have hDc := hD.sub (ws' := [(a_this, .inr (8, [.ref a_memory, .ref a_runOf, .int held_10])), (a_memory, .inl (g 0, 50, .inl memory_4))]) [0, 1] (by decide) rfl
        have hFc := va_free (wc := [(a_this, .inr (8, [.ref a_memory, .ref a_runOf, .int held_10])), (a_memory, .inl (g 0, 50, .inl memory_4))]) hD hS hA [0, 1] rfl
        refine va_callv (va_runV (As := [.int r_20]) (rest := []) ⟨hx, hb, hml, hown, hts⟩ (c_X6_holdInOrder l dC dI g (a_this := a_this) (a_memory := a_memory) (a_runOf := a_runOf) (held := held_10) (memory := memory_4) (rank := r_20) (hw := hw) (sz := H_20.size)) (cwV 1 hts (gqV aw_3_202 aw_3_204 aw_0_5 aw_1_5 aw_3_205) rfl rfl rfl (by decide +kernel) ⟨Nat.le_of_ble_eq_true rfl, Nat.le_of_ble_eq_true rfl⟩) ⟨PG_blind, va_recv hK hP (ci := 8) (q0 := 0) rfl rfl, PG_call hK hG hS hPc hDc hFc⟩ rfl rfl hl.1 rfl (lv_room (Nat.le_of_ble_eq_true rfl)) dX6_makeFull_29 ⟨Nat.le_of_ble_eq_true rfl, Nat.le_of_ble_eq_true rfl⟩) hS (fun q _ h => hFc q h) hFc (fun u_21 t_21 H_21 L_21 ht_21 hvm_21 hw_21 hB_21 hz_21 hk_21 hS => ?_)
        obtain ⟨held_22, memory_23, u_21⟩ := u_21
        obtain ⟨hP1, hD1⟩ := hB_21
        rw [ht_21] at hP1
        obtain ⟨hP, hD⟩ := va_joinQ (wr := [(a_book, .inr (2, [.ref a_book_allKeys, .ref a_book_allMarks, .int book_count])), (a_book_allKeys, .inl (g 0, 200, .inl book_allKeys)), (a_into, .inr (9, [.ref a_into_ranks, .ref a_into_starts, .ref a_into_lengths, .int into_count_5, .int into_filled_8])), (a_into_starts, .inl (g 0, 200, .inl into_starts_6)), (a_into_lengths, .inl (g 0, 200, .inl into_lengths_7)), (a_into_ranks, .inl (g 0, 100, .inl into_ranks_9))]) (w1 := [(a_this, .inr (8, [.ref a_memory, .ref a_runOf, .int held_22])), (a_memory, .inl (g 0, 50, .inl memory_23))]) hP hD [0, 1] [2, 3, 4, 5, 6, 7] rfl rfl (by decide) (by decide) hk_21 hFc hP1 hD1
        have hP : va_P (dC, dI) vwCl ([(a_book, .inr (2, [.ref a_book_allKeys, .ref a_book_allMarks, .int book_count])), (a_book_allKeys, .inl (g 0, 200, .inl book_allKeys)), (a_into, .inr (9, [.ref a_into_ranks, .ref a_into_starts, .ref a_into_lengths, .int into_count_5, .int into_filled_8])), (a_into_starts, .inl (g 0, 200, .inl into_starts_6)), (a_into_lengths, .inl (g 0, 200, .inl into_lengths_7)), (a_into_ranks, .inl (g 0, 100, .inl into_ranks_9)), (a_this, .inr (8, [.ref a_memory, .ref a_runOf, .int held_22])), (a_memory, .inl (g 0, 50, .inl memory_23))] ++ TPl tp hd (g 0) F_ n_) H_21 := hP
        have hD : va_D A ([(a_book, .inr (2, [.ref a_book_allKeys, .ref a_book_allMarks, .int book_count])), (a_book_allKeys, .inl (g 0, 200, .inl book_allKeys)), (a_into, .inr (9, [.ref a_into_ranks, .ref a_into_starts, .ref a_into_lengths, .int into_count_5, .int into_filled_8])), (a_into_starts, .inl (g 0, 200, .inl into_starts_6)), (a_into_lengths, .inl (g 0, 200, .inl into_lengths_7)), (a_into_ranks, .inl (g 0, 100, .inl into_ranks_9)), (a_this, .inr (8, [.ref a_memory, .ref a_runOf, .int held_22])), (a_memory, .inl (g 0, 50, .inl memory_23))] ++ TPl tp hd (g 0) F_ n_) := hD
        have hw := hw_21
        refine lv_aload_n hx hb dX6_makeFull_32 rfl (lv_at hl 0 rfl) ?_
        refine va_get (D := (dC, dI)) (ci := 8) (v := .int held_22) (C := RX6) (T := TX6) (N := 3) hx hb hts hiX6 hown hK hP 6 rfl rfl 2 (by decide) hf18 (fun _ h9 => h9) rfl dX6_makeFull_33 ?_
        refine lv_iload hx hb dX6_makeFull_36 (lv_at hl 4 rfl) ?_
        have JN52 : ∀  (H : Heap) (locs : List Loc), (wj_X6_makeFull_52 v6_3 into_count_5 into_starts_6 into_lengths_7 into_filled_8 into_ranks_9 (wl_X6_makeFull_8 book_allKeys tape order room F_ n_ (wx_X6_makeFull_8_105 Q) n8) held_22 memory_23)  → va_P (dC, dI) vwCl ([(a_this, .inr (8, [.ref a_memory, .ref a_runOf, .int held_22])), (a_memory, .inl (g 0, 50, .inl memory_23)), (a_book, .inr (2, [.ref a_book_allKeys, .ref a_book_allMarks, .int book_count])), (a_book_allKeys, .inl (g 0, 200, .inl book_allKeys)), (a_into, .inr (9, [.ref a_into_ranks, .ref a_into_starts, .ref a_into_lengths, .int into_count_5, .int into_filled_8])), (a_into_starts, .inl (g 0, 200, .inl into_starts_6)), (a_into_lengths, .inl (g 0, 200, .inl into_lengths_7)), (a_into_ranks, .inl (g 0, 100, .inl into_ranks_9))] ++ TPl tp hd (g 0) F_ n_) H → va_D A ([(a_this, .inr (8, [.ref a_memory, .ref a_runOf, .int held_22])), (a_memory, .inl (g 0, 50, .inl memory_23)), (a_book, .inr (2, [.ref a_book_allKeys, .ref a_book_allMarks, .int book_count])), (a_book_allKeys, .inl (g 0, 200, .inl book_allKeys)), (a_into, .inr (9, [.ref a_into_ranks, .ref a_into_starts, .ref a_into_lengths, .int into_count_5, .int into_filled_8])), (a_into_starts, .inl (g 0, 200, .inl into_starts_6)), (a_into_lengths, .inl (g 0, 200, .inl into_lengths_7)), (a_into_ranks, .inl (g 0, 100, .inl into_ranks_9))] ++ TPl tp hd (g 0) F_ n_) → va_S A s.heap H locs → ∀ (ls : Array Slot), lv_has ls 8 [(0, .ref a_this), (1, .ref a_book), (2, .ref (tp tape)), (3, .int order), (4, .int room), (5, .ref a_into), (6, .int v6_3)] → W p l e (headSpec wqX6_makeFull ({ frames := 1, cells := 0, slots := 0, locals := 23 })).room s m ([.ref a_this, .ref a_book, .ref (tp tape), .int order, .int room, .ref a_into] : List Value).toArray below meth c H locs 0 0 QM (F0 m 52 ls []) := by
          intro  H locs hw hP hD hS ls hl
          refine lv_aload hx hb dX6_makeFull_52 (lv_at hl 5 rfl) ?_
          have hPc := hP.sub (ws' := [(a_into, .inr (9, [.ref a_into_ranks, .ref a_into_starts, .ref a_into_lengths, .int into_count_5, .int into_filled_8])), (a_into_starts, .inl (g 0, 200, .inl into_starts_6)), (a_into_lengths, .inl (g 0, 200, .inl into_lengths_7))]) [4, 5, 6] rfl
          have hDc := hD.sub (ws' := [(a_into, .inr (9, [.ref a_into_ranks, .ref a_into_starts, .ref a_into_lengths, .int into_count_5, .int into_filled_8])), (a_into_starts, .inl (g 0, 200, .inl into_starts_6)), (a_into_lengths, .inl (g 0, 200, .inl into_lengths_7))]) [4, 5, 6] (by decide) rfl
          have hFc := va_free (wc := [(a_into, .inr (9, [.ref a_into_ranks, .ref a_into_starts, .ref a_into_lengths, .int into_count_5, .int into_filled_8])), (a_into_starts, .inl (g 0, 200, .inl into_starts_6)), (a_into_lengths, .inl (g 0, 200, .inl into_lengths_7))]) hD hS hA [4, 5, 6] rfl
          refine va_callv (va_runV (As := []) (rest := []) ⟨hx, hb, hml, hown, hts⟩ (c_X7_openRun l dC dI g (a_this := a_into) (a_ranks := a_into_ranks) (a_starts := a_into_starts) (a_lengths := a_into_lengths) (count := into_count_5) (filled := into_filled_8) (starts := into_starts_6) (lengths := into_lengths_7) (hw := hw) (sz := H.size)) (cwV 0 hts (gqV aw_3_206 aw_3_207 aw_3_208 aw_1_6 aw_3_209) rfl rfl rfl (by decide +kernel) ⟨Nat.le_of_ble_eq_true rfl, Nat.le_of_ble_eq_true rfl⟩) ⟨PG_blind, va_recv hK hP (ci := 9) (q0 := 4) rfl rfl, PG_call hK hG hS hPc hDc hFc⟩ rfl rfl hl.1 rfl (lv_room (Nat.le_of_ble_eq_true rfl)) dX6_makeFull_54 ⟨Nat.le_of_ble_eq_true rfl, Nat.le_of_ble_eq_true rfl⟩) hS (fun q _ h => hFc q h) hFc (fun u_24 t_24 H_24 L_24 ht_24 hvm_24 hw_24 hB_24 hz_24 hk_24 hS => ?_)
          obtain ⟨into_count_25, into_starts_26, into_lengths_27, u_24⟩ := u_24
          obtain ⟨hP1, hD1⟩ := hB_24
          rw [ht_24] at hP1
          obtain ⟨hP, hD⟩ := va_joinQ (wr := [(a_this, .inr (8, [.ref a_memory, .ref a_runOf, .int held_22])), (a_memory, .inl (g 0, 50, .inl memory_23)), (a_book, .inr (2, [.ref a_book_allKeys, .ref a_book_allMarks, .int book_count])), (a_book_allKeys, .inl (g 0, 200, .inl book_allKeys)), (a_into_ranks, .inl (g 0, 100, .inl into_ranks_9))]) (w1 := [(a_into, .inr (9, [.ref a_into_ranks, .ref a_into_starts, .ref a_into_lengths, .int into_count_25, .int into_filled_8])), (a_into_starts, .inl (g 0, 200, .inl into_starts_26)), (a_into_lengths, .inl (g 0, 200, .inl into_lengths_27))]) hP hD [4, 5, 6] [0, 1, 2, 3, 7] rfl rfl (by decide) (by decide) hk_24 hFc hP1 hD1
          have hP : va_P (dC, dI) vwCl ([(a_this, .inr (8, [.ref a_memory, .ref a_runOf, .int held_22])), (a_memory, .inl (g 0, 50, .inl memory_23)), (a_book, .inr (2, [.ref a_book_allKeys, .ref a_book_allMarks, .int book_count])), (a_book_allKeys, .inl (g 0, 200, .inl book_allKeys)), (a_into_ranks, .inl (g 0, 100, .inl into_ranks_9)), (a_into, .inr (9, [.ref a_into_ranks, .ref a_into_starts, .ref a_into_lengths, .int into_count_25, .int into_filled_8])), (a_into_starts, .inl (g 0, 200, .inl into_starts_26)), (a_into_lengths, .inl (g 0, 200, .inl into_lengths_27))] ++ TPl tp hd (g 0) F_ n_) H_24 := hP
          have hD : va_D A ([(a_this, .inr (8, [.ref a_memory, .ref a_runOf, .int held_22])), (a_memory, .inl (g 0, 50, .inl memory_23)), (a_book, .inr (2, [.ref a_book_allKeys, .ref a_book_allMarks, .int book_count])), (a_book_allKeys, .inl (g 0, 200, .inl book_allKeys)), (a_into_ranks, .inl (g 0, 100, .inl into_ranks_9)), (a_into, .inr (9, [.ref a_into_ranks, .ref a_into_starts, .ref a_into_lengths, .int into_count_25, .int into_filled_8])), (a_into_starts, .inl (g 0, 200, .inl into_starts_26)), (a_into_lengths, .inl (g 0, 200, .inl into_lengths_27))] ++ TPl tp hd (g 0) F_ n_) := hD
          have hw := hw_24
          refine lv_iconst (v := 0) hx hb dX6_makeFull_57 (by decide) ?_
          refine lv_istore (lv' := [(7, .int 0), (0, .ref a_this), (1, .ref a_book), (2, .ref (tp tape)), (3, .int order), (4, .int room), (5, .ref a_into), (6, .int v6_3)]) hx hb dX6_makeFull_58 hl (by decide) rfl (fun ls hl => ?_)
          have EX60_94 : ∀ (into_filled_32 : Int32) (into_lengths_33 : Nat → Int32) (into_ranks_34 : Nat → Int32) (H : Heap) (locs : List Loc), (wx_X6_makeFull_60_94 v6_3 (wl_X6_makeFull_8 book_allKeys tape order room F_ n_ (wx_X6_makeFull_8_105 Q) n8) memory_23 into_count_25 into_starts_26) into_filled_32 into_lengths_33 into_ranks_34 → va_P (dC, dI) vwCl ([(a_this, .inr (8, [.ref a_memory, .ref a_runOf, .int held_22])), (a_memory, .inl (g 0, 50, .inl memory_23)), (a_book, .inr (2, [.ref a_book_allKeys, .ref a_book_allMarks, .int book_count])), (a_book_allKeys, .inl (g 0, 200, .inl book_allKeys)), (a_into, .inr (9, [.ref a_into_ranks, .ref a_into_starts, .ref a_into_lengths, .int into_count_25, .int into_filled_32])), (a_into_starts, .inl (g 0, 200, .inl into_starts_26)), (a_into_lengths, .inl (g 0, 200, .inl into_lengths_33)), (a_into_ranks, .inl (g 0, 100, .inl into_ranks_34))] ++ TPl tp hd (g 0) F_ n_) H → va_D A ([(a_this, .inr (8, [.ref a_memory, .ref a_runOf, .int held_22])), (a_memory, .inl (g 0, 50, .inl memory_23)), (a_book, .inr (2, [.ref a_book_allKeys, .ref a_book_allMarks, .int book_count])), (a_book_allKeys, .inl (g 0, 200, .inl book_allKeys)), (a_into, .inr (9, [.ref a_into_ranks, .ref a_into_starts, .ref a_into_lengths, .int into_count_25, .int into_filled_32])), (a_into_starts, .inl (g 0, 200, .inl into_starts_26)), (a_into_lengths, .inl (g 0, 200, .inl into_lengths_33)), (a_into_ranks, .inl (g 0, 100, .inl into_ranks_34))] ++ TPl tp hd (g 0) F_ n_) → va_S A s.heap H locs → ∀ (ls : Array Slot), lv_has ls 8 [(0, .ref a_this), (1, .ref a_book), (2, .ref (tp tape)), (3, .int order), (4, .int room), (5, .ref a_into), (6, .int v6_3)] → W p l e (headSpec wqX6_makeFull ({ frames := 1, cells := 0, slots := 0, locals := 23 })).room s m ([.ref a_this, .ref a_book, .ref (tp tape), .int order, .int room, .ref a_into] : List Value).toArray below meth c H locs 0 0 QM (F0 m 94 ls []) := by
            intro into_filled_32 into_lengths_33 into_ranks_34 H locs hw hP hD hS ls hl
            refine lv_aload_n hx hb dX6_makeFull_94 rfl (lv_at hl 0 rfl) ?_
            refine lv_iconst (v := 0) hx hb dX6_makeFull_95 (by decide) ?_
            refine va_put (D := (dC, dI)) (ci := 8) (v := .int 0) (ty := .int) (C := RX6) (T := TX6) (N := 3) hx hb hts hiX6 tyX6 tyX6_ok nmX6 hown hK hP hD hS 0 rfl rfl 2 (by decide) hf18 (fun _ h9 => h9) rfl (by decide +kernel) rfl rfl (Nat.le_of_ble_eq_true rfl) dX6_makeFull_96 (fun H_35 L_36 hP hD hS => ?_)
            have hP : va_P (dC, dI) vwCl ([(a_this, .inr (8, [.ref a_memory, .ref a_runOf, .int 0])), (a_memory, .inl (g 0, 50, .inl memory_23)), (a_book, .inr (2, [.ref a_book_allKeys, .ref a_book_allMarks, .int book_count])), (a_book_allKeys, .inl (g 0, 200, .inl book_allKeys)), (a_into, .inr (9, [.ref a_into_ranks, .ref a_into_starts, .ref a_into_lengths, .int into_count_25, .int into_filled_32])), (a_into_starts, .inl (g 0, 200, .inl into_starts_26)), (a_into_lengths, .inl (g 0, 200, .inl into_lengths_33)), (a_into_ranks, .inl (g 0, 100, .inl into_ranks_34))] ++ TPl tp hd (g 0) F_ n_) H_35 := hP
            have hD : va_D A ([(a_this, .inr (8, [.ref a_memory, .ref a_runOf, .int 0])), (a_memory, .inl (g 0, 50, .inl memory_23)), (a_book, .inr (2, [.ref a_book_allKeys, .ref a_book_allMarks, .int book_count])), (a_book_allKeys, .inl (g 0, 200, .inl book_allKeys)), (a_into, .inr (9, [.ref a_into_ranks, .ref a_into_starts, .ref a_into_lengths, .int into_count_25, .int into_filled_32])), (a_into_starts, .inl (g 0, 200, .inl into_starts_26)), (a_into_lengths, .inl (g 0, 200, .inl into_lengths_33)), (a_into_ranks, .inl (g 0, 100, .inl into_ranks_34))] ++ TPl tp hd (g 0) F_ n_) := hD
            obtain ⟨x_37, ex_37⟩ : ∃ y : Int32, y = v6_3 + 1 := ⟨_, rfl⟩
            have hw := hw x_37 ex_37
            refine lv_iinc (v := x_37) (lv' := [(6, .int x_37), (0, .ref a_this), (1, .ref a_book), (2, .ref (tp tape)), (3, .int order), (4, .int room), (5, .ref a_into)]) hx hb dX6_makeFull_99 hl (k := 6) rfl (by rw [ex_37]; rfl) (by decide) rfl (fun ls hl => ?_)
            refine lv_goto (tgt := 8) hx hb dX6_makeFull_102 (by decide) ?_
            exact ih8 x_37 memory_23 into_count_25 into_starts_26 into_lengths_33 into_filled_32 into_ranks_34 0 _ _ hw (hP.part [0, 1, 2, 3, 4, 5, 6, 7] rfl) (hD.part [0, 1, 2, 3, 4, 5, 6, 7] (by decide) rfl) hS _ (lv_sub hl [1, 2, 3, 4, 5, 6, 0] rfl)
          have LOOP60 : ∀ (n60 : Nat) (v7_28 : Int32) (into_filled_29 : Int32) (into_lengths_30 : Nat → Int32) (into_ranks_31 : Nat → Int32) (H : Heap) (locs : List Loc), wl_X6_makeFull_60 held_22 memory_23 into_count_25 (wx_X6_makeFull_60_94 v6_3 (wl_X6_makeFull_8 book_allKeys tape order room F_ n_ (wx_X6_makeFull_8_105 Q) n8) memory_23 into_count_25 into_starts_26) n60 v7_28 into_filled_29 into_lengths_30 into_ranks_31 → va_P (dC, dI) vwCl ([(a_this, .inr (8, [.ref a_memory, .ref a_runOf, .int held_22])), (a_memory, .inl (g 0, 50, .inl memory_23)), (a_book, .inr (2, [.ref a_book_allKeys, .ref a_book_allMarks, .int book_count])), (a_book_allKeys, .inl (g 0, 200, .inl book_allKeys)), (a_into, .inr (9, [.ref a_into_ranks, .ref a_into_starts, .ref a_into_lengths, .int into_count_25, .int into_filled_29])), (a_into_starts, .inl (g 0, 200, .inl into_starts_26)), (a_into_lengths, .inl (g 0, 200, .inl into_lengths_30)), (a_into_ranks, .inl (g 0, 100, .inl into_ranks_31))] ++ TPl tp hd (g 0) F_ n_) H → va_D A ([(a_this, .inr (8, [.ref a_memory, .ref a_runOf, .int held_22])), (a_memory, .inl (g 0, 50, .inl memory_23)), (a_book, .inr (2, [.ref a_book_allKeys, .ref a_book_allMarks, .int book_count])), (a_book_allKeys, .inl (g 0, 200, .inl book_allKeys)), (a_into, .inr (9, [.ref a_into_ranks, .ref a_into_starts, .ref a_into_lengths, .int into_count_25, .int into_filled_29])), (a_into_starts, .inl (g 0, 200, .inl into_starts_26)), (a_into_lengths, .inl (g 0, 200, .inl into_lengths_30)), (a_into_ranks, .inl (g 0, 100, .inl into_ranks_31))] ++ TPl tp hd (g 0) F_ n_) → va_S A s.heap H locs → ∀ (ls : Array Slot), lv_has ls 8 [(0, .ref a_this), (1, .ref a_book), (2, .ref (tp tape)), (3, .int order), (4, .int room), (5, .ref a_into), (6, .int v6_3), (7, .int v7_28)] → W p l e (headSpec wqX6_makeFull ({ frames := 1, cells := 0, slots := 0, locals := 23 })).room s m ([.ref a_this, .ref a_book, .ref (tp tape), .int order, .int room, .ref a_into] : List Value).toArray below meth c H locs 0 0 QM (F0 m 60 ls []) := by
            intro n60
            induction n60 with
            | zero =>
              intro v7_28 into_filled_29 into_lengths_30 into_ranks_31 H locs hw hP hD hS ls hl
              exact False.elim hw
            | succ n60 ih60 =>
              intro v7_28 into_filled_29 into_lengths_30 into_ranks_31 H locs hw hP hD hS ls hl
              rw [wl_X6_makeFull_60_s] at hw
              refine lv_iload hx hb dX6_makeFull_60 (lv_at hl 7 rfl) ?_
              refine lv_aload_n hx hb dX6_makeFull_62 rfl (lv_at hl 0 rfl) ?_
              refine va_get (D := (dC, dI)) (ci := 8) (v := .int held_22) (C := RX6) (T := TX6) (N := 3) hx hb hts hiX6 hown hK hP 0 rfl rfl 2 (by decide) hf18 (fun _ h9 => h9) rfl dX6_makeFull_63 ?_
              refine lv_icmp_ge (tgt := 94) hx hb dX6_makeFull_66 (by decide) (fun c_38 => ?_) (fun c_38 => ?_)
              · have hw := hw.1 c_38
                exact EX60_94 into_filled_29 into_lengths_30 into_ranks_31 _ _ hw (hP.part [0, 1, 2, 3, 4, 5, 6, 7] rfl) (hD.part [0, 1, 2, 3, 4, 5, 6, 7] (by decide) rfl) hS _ (lv_sub hl [0, 1, 2, 3, 4, 5, 6] rfl)
              · have hw := hw.2 c_38
                refine lv_iload hx hb dX6_makeFull_69 (lv_at hl 7 rfl) ?_
                refine lv_bipush (v := 50) hx hb dX6_makeFull_71 (by decide) ?_
                refine lv_icmp_ge (tgt := 94) hx hb dX6_makeFull_73 (by decide) (fun c_39 => ?_) (fun c_39 => ?_)
                · have hw := hw.1 c_39
                  exact EX60_94 into_filled_29 into_lengths_30 into_ranks_31 _ _ hw (hP.part [0, 1, 2, 3, 4, 5, 6, 7] rfl) (hD.part [0, 1, 2, 3, 4, 5, 6, 7] (by decide) rfl) hS _ (lv_sub hl [0, 1, 2, 3, 4, 5, 6] rfl)
                · have hw := hw.2 c_39
                  refine lv_aload hx hb dX6_makeFull_76 (lv_at hl 5 rfl) ?_
                  refine lv_aload_n hx hb dX6_makeFull_78 rfl (lv_at hl 0 rfl) ?_
                  refine va_get (D := (dC, dI)) (ci := 8) (v := .ref a_memory) (C := RX6) (T := TX6) (N := 3) hx hb hts hiX6 hown hK hP 0 rfl rfl 0 (by decide) hf9 (fun _ h9 => h9) rfl dX6_makeFull_79 ?_
                  refine lv_iload hx hb dX6_makeFull_82 (lv_at hl 7 rfl) ?_
                  refine va_iald hx hb hK hP 1 0 rfl rfl hw.1 dX6_makeFull_84 ?_
                  have hw := hw.2
                  refine lv_topi (fun x_40 ex_40 => ?_)
                  have hw := hw x_40 ex_40
                  have hPc := hP.sub (ws' := [(a_into, .inr (9, [.ref a_into_ranks, .ref a_into_starts, .ref a_into_lengths, .int into_count_25, .int into_filled_29])), (a_into_ranks, .inl (g 0, 100, .inl into_ranks_31)), (a_into_lengths, .inl (g 0, 200, .inl into_lengths_30))]) [4, 7, 6] rfl
                  have hDc := hD.sub (ws' := [(a_into, .inr (9, [.ref a_into_ranks, .ref a_into_starts, .ref a_into_lengths, .int into_count_25, .int into_filled_29])), (a_into_ranks, .inl (g 0, 100, .inl into_ranks_31)), (a_into_lengths, .inl (g 0, 200, .inl into_lengths_30))]) [4, 7, 6] (by decide) rfl
                  have hFc := va_free (wc := [(a_into, .inr (9, [.ref a_into_ranks, .ref a_into_starts, .ref a_into_lengths, .int into_count_25, .int into_filled_29])), (a_into_ranks, .inl (g 0, 100, .inl into_ranks_31)), (a_into_lengths, .inl (g 0, 200, .inl into_lengths_30))]) hD hS hA [4, 7, 6] rfl
                  refine va_callv (va_runV (As := [.int x_40]) (rest := []) ⟨hx, hb, hml, hown, hts⟩ (c_X7_add l dC dI g (a_this := a_into) (a_ranks := a_into_ranks) (a_starts := a_into_starts) (a_lengths := a_into_lengths) (count := into_count_25) (filled := into_filled_29) (ranks := into_ranks_31) (lengths := into_lengths_30) (rank := x_40) (hw := hw) (sz := H.size)) (cwV 1 hts (gqV aw_3_210 aw_3_211 aw_3_212 aw_1_6 aw_3_213) rfl rfl rfl (by decide +kernel) ⟨Nat.le_of_ble_eq_true rfl, Nat.le_of_ble_eq_true rfl⟩) ⟨PG_blind, va_recv hK hP (ci := 9) (q0 := 4) rfl rfl, PG_call hK hG hS hPc hDc hFc⟩ rfl rfl hl.1 rfl (lv_room (Nat.le_of_ble_eq_true rfl)) dX6_makeFull_85 ⟨Nat.le_of_ble_eq_true rfl, Nat.le_of_ble_eq_true rfl⟩) hS (fun q _ h => hFc q h) hFc (fun u_41 t_41 H_41 L_41 ht_41 hvm_41 hw_41 hB_41 hz_41 hk_41 hS => ?_)
                  obtain ⟨into_filled_42, into_ranks_43, into_lengths_44, u_41⟩ := u_41
                  obtain ⟨hP1, hD1⟩ := hB_41
                  rw [ht_41] at hP1
                  obtain ⟨hP, hD⟩ := va_joinQ (wr := [(a_this, .inr (8, [.ref a_memory, .ref a_runOf, .int held_22])), (a_memory, .inl (g 0, 50, .inl memory_23)), (a_book, .inr (2, [.ref a_book_allKeys, .ref a_book_allMarks, .int book_count])), (a_book_allKeys, .inl (g 0, 200, .inl book_allKeys)), (a_into_starts, .inl (g 0, 200, .inl into_starts_26))]) (w1 := [(a_into, .inr (9, [.ref a_into_ranks, .ref a_into_starts, .ref a_into_lengths, .int into_count_25, .int into_filled_42])), (a_into_ranks, .inl (g 0, 100, .inl into_ranks_43)), (a_into_lengths, .inl (g 0, 200, .inl into_lengths_44))]) hP hD [4, 7, 6] [0, 1, 2, 3, 5] rfl rfl (by decide) (by decide) hk_41 hFc hP1 hD1
                  have hP : va_P (dC, dI) vwCl ([(a_this, .inr (8, [.ref a_memory, .ref a_runOf, .int held_22])), (a_memory, .inl (g 0, 50, .inl memory_23)), (a_book, .inr (2, [.ref a_book_allKeys, .ref a_book_allMarks, .int book_count])), (a_book_allKeys, .inl (g 0, 200, .inl book_allKeys)), (a_into_starts, .inl (g 0, 200, .inl into_starts_26)), (a_into, .inr (9, [.ref a_into_ranks, .ref a_into_starts, .ref a_into_lengths, .int into_count_25, .int into_filled_42])), (a_into_ranks, .inl (g 0, 100, .inl into_ranks_43)), (a_into_lengths, .inl (g 0, 200, .inl into_lengths_44))] ++ TPl tp hd (g 0) F_ n_) H_41 := hP
                  have hD : va_D A ([(a_this, .inr (8, [.ref a_memory, .ref a_runOf, .int held_22])), (a_memory, .inl (g 0, 50, .inl memory_23)), (a_book, .inr (2, [.ref a_book_allKeys, .ref a_book_allMarks, .int book_count])), (a_book_allKeys, .inl (g 0, 200, .inl book_allKeys)), (a_into_starts, .inl (g 0, 200, .inl into_starts_26)), (a_into, .inr (9, [.ref a_into_ranks, .ref a_into_starts, .ref a_into_lengths, .int into_count_25, .int into_filled_42])), (a_into_ranks, .inl (g 0, 100, .inl into_ranks_43)), (a_into_lengths, .inl (g 0, 200, .inl into_lengths_44))] ++ TPl tp hd (g 0) F_ n_) := hD
                  have hw := hw_41
                  obtain ⟨x_45, ex_45⟩ : ∃ y : Int32, y = v7_28 + 1 := ⟨_, rfl⟩
                  have hw := hw x_45 ex_45
                  refine lv_iinc (v := x_45) (lv' := [(7, .int x_45), (0, .ref a_this), (1, .ref a_book), (2, .ref (tp tape)), (3, .int order), (4, .int room), (5, .ref a_into), (6, .int v6_3)]) hx hb dX6_makeFull_88 hl (k := 7) rfl (by rw [ex_45]; rfl) (by decide) rfl (fun ls hl => ?_)
                  refine lv_goto (tgt := 60) hx hb dX6_makeFull_91 (by decide) ?_
                  exact ih60 x_45 into_filled_42 into_lengths_44 into_ranks_43 _ _ hw (hP.part [0, 1, 2, 3, 5, 4, 7, 6] rfl) (hD.part [0, 1, 2, 3, 5, 4, 7, 6] (by decide) rfl) hS _ (lv_sub hl [1, 2, 3, 4, 5, 6, 7, 0] rfl)
          obtain ⟨n60, hw⟩ := hw
          exact LOOP60 n60 0 into_filled_8 into_lengths_27 into_ranks_9 _ _ hw (hP.part [0, 1, 2, 3, 5, 6, 7, 4] rfl) (hD.part [0, 1, 2, 3, 5, 6, 7, 4] (by decide) rfl) hS _ (lv_sub hl [1, 2, 3, 4, 5, 6, 7, 0] rfl)
        refine lv_icmp_ge (tgt := 52) hx hb dX6_makeFull_38 (by decide) (fun c_46 => ?_) (fun c_46 => ?_)
        · have hw := hw.1 c_46
          exact JN52  _ _ hw (hP.part [6, 7, 0, 1, 2, 3, 4, 5] rfl) (hD.part [6, 7, 0, 1, 2, 3, 4, 5] (by decide) rfl) hS _ (lv_sub hl [0, 1, 2, 3, 4, 5, 6] rfl)
        · have hw := hw.2 c_46
          refine lv_iload hx hb dX6_makeFull_41 (lv_at hl 6 rfl) ?_
          refine lv_aload_n hx hb dX6_makeFull_43 rfl (lv_at hl 2 rfl) ?_
          refine va_getN (D := (dC, dI)) (ci := 11) (v := .int (n_ tape)) (C := RX9) (T := TX9) (N := 2) hx hb hts hiX9 hown hK hP _ (TP_o hj_tape) rfl 1 (by decide) (nf_2 hG) (fun _ h9 => h9) rfl dX6_makeFull_44 ?_
          refine lv_iconst (v := 1) hx hb dX6_makeFull_47 (by decide) ?_
          refine lv_isub hx hb dX6_makeFull_48 ?_
          refine lv_topi (fun x_47 ex_47 => ?_)
          have hw := hw x_47 ex_47
          refine lv_icmp_ne (tgt := 99) hx hb dX6_makeFull_49 (by decide) (fun c_48 => ?_) (fun c_48 => ?_)
          · have hw := hw.2 c_48
            obtain ⟨x_49, ex_49⟩ : ∃ y : Int32, y = v6_3 + 1 := ⟨_, rfl⟩
            have hw := hw x_49 ex_49
            refine lv_iinc (v := x_49) (lv' := [(6, .int x_49), (0, .ref a_this), (1, .ref a_book), (2, .ref (tp tape)), (3, .int order), (4, .int room), (5, .ref a_into)]) hx hb dX6_makeFull_99 hl (k := 6) rfl (by rw [ex_49]; rfl) (by decide) rfl (fun ls hl => ?_)
            refine lv_goto (tgt := 8) hx hb dX6_makeFull_102 (by decide) ?_
            exact ih8 x_49 memory_23 into_count_5 into_starts_6 into_lengths_7 into_filled_8 into_ranks_9 held_22 _ _ hw (hP.part [6, 7, 0, 1, 2, 3, 4, 5] rfl) (hD.part [6, 7, 0, 1, 2, 3, 4, 5] (by decide) rfl) hS _ (lv_sub hl [1, 2, 3, 4, 5, 6, 0] rfl)
          · have hw := hw.1 c_48
            exact JN52  _ _ hw (hP.part [6, 7, 0, 1, 2, 3, 4, 5] rfl) (hD.part [6, 7, 0, 1, 2, 3, 4, 5] (by decide) rfl) hS _ (lv_sub hl [0, 1, 2, 3, 4, 5, 6] rfl)
  obtain ⟨n8, hw⟩ := hw
  exact LOOP8 n8 0 memory into_count into_starts into_lengths into_filled into_ranks 0 _ _ hw (hP.part [0, 1, 2, 3, 4, 5, 6, 7] rfl) (hD.part [0, 1, 2, 3, 4, 5, 6, 7] (by decide) rfl) hS _ (lv_sub hl [1, 2, 3, 4, 5, 6, 0] rfl)
