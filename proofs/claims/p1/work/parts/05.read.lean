set_option maxHeartbeats 4000000 in
set_option maxRecDepth 100000 in
theorem c_X4_takeLengths (l : Launch) (dC : Nat → ClassId) (dI : Nat → Nat → Nat) (g : Nat → ClassId) (W : va_W) (t : Nat) (p : Nat) (a : Nat) (b : Nat) (r : Nat) (k0 : Nat) (w0 : W[k0]? = some (t, .inr (6, [.ref p, .ref a, .ref b, .int 0, .int 0, .int 0, .int 0, .int 0]))) (sz : Nat) : Met l yX4_takeLengths wsX4_takeLengths ({ frames := 1, cells := 0, slots := 0, locals := 14 }) (va_Pc [.ref t, .ref r, .int 0] (PG (dC, dI) g W sz)) (va_Qv (fun (_ : Unit) => True) (fun (_ : Unit) t => va_P (dC, dI) vwCl W t.heap) (va_A W sz)) 0 0 (va_A W sz) := by
  refine Met.ofW (cc := cX4_takeLengths) (maxL := 4) (ret := none) (by decide) rfl ?_
  intro p e s m args below meth c s₁ B hml hv
  obtain ⟨rfl, hsz, hP, hK, hD0, hG⟩ := hv
  have hx := B.exec
  have hb := B.bytes
  have hr := B.returns
  have hts := atoms_spec (ws := wsX4_takeLengths) B.pre
  have hown : s.vm.findClass RX4 = some m.cls := findClass_of_methodNamed B.named
  have hlocks := B.notSynchronized
  subst hsz
  have hD := hD0.self (sz := s.heap.size)
  generalize hAe : va_A W s.heap.size = A at hD hG ⊢
  have hA : ∀ q : Nat, s.heap.size ≤ q → A q := fun q h => by rw [← hAe]; exact Or.inr h
  have hS : va_S A s.heap s.heap [] := va_S.rf
  have hl := lv_entry ([.ref t, .ref r, .int 0]) (n := 4) (Nat.le_of_ble_eq_true rfl)
  rw [lg_entry_eq]
  generalize (lg_sl ([.ref t, .ref r, .int 0]) ++ List.replicate (4 - (lg_sl ([.ref t, .ref r, .int 0])).length) Slot.unset).toArray = ls at hl ⊢
  have hl : lv_has ls 4 [(0, .ref t), (1, .ref r), (2, .int 0)] := hl
  have hmmin55_0 : (Cond.methodLink RX4 55 Lib.Math.min.name).before args s = true := hts _ (by decide +kernel)
  have hmmin55_1 : (Cond.static Lib.Math.min.name).before args s = true := hts _ (by decide +kernel)
  have hmmin55_2 : (Cond.initialized "java/lang/Math").before args s = true := hts _ (by decide +kernel)
  have hmmin55_3 : (Cond.code Lib.Math.min.name Lib.Math.min.code 2 (some .int)).before args s = true := hts _ (by decide +kernel)
  have hf25 : (Cond.fieldLink RX4 25 "RunmergeOffice$Plan" "count" "I").before args s = true := hts _ (by decide +kernel)
  have hiX4 : ∀ w ∈ u_ws RX4 TX4 8, w ∈ wsX4_takeLengths := by decide +kernel
  refine lv_aload_n hx hb dX4_takeLengths_0 rfl (lv_at hl 0 rfl) ?_
  refine lv_iload_n hx hb dX4_takeLengths_1 rfl (lv_at hl 2 rfl) ?_
  refine lv_sipush (v := 200) hx hb dX4_takeLengths_2 (by decide) ?_
  refine va_mmin hx hb (hml.trans hl.1.symm) hown hmmin55_0 hmmin55_1 hmmin55_2 hmmin55_3 (Nat.le_of_ble_eq_true rfl) (Nat.le_of_ble_eq_true rfl) (Nat.le_of_ble_eq_true rfl) (Nat.le_of_ble_eq_true rfl) dX4_takeLengths_5 ?_
  refine lv_topi (fun x_1 ex_1 => ?_)
  obtain rfl : x_1 = 0 := ex_1.trans (by decide)
  refine va_putS (D := (dC, dI)) (ci := 6) (v := .int 0) (ty := .int) (C := RX4) (T := TX4) (N := 8) hx hb hts hiX4 tyX4 tyX4_ok nmX4 hown hK hP hD hS k0 w0 rfl 3 (by decide) hf25 (fun _ h9 => h9) rfl (by decide +kernel) rfl rfl (Nat.le_of_ble_eq_true rfl) rfl dX4_takeLengths_8 (fun H_2 L_3 hP hS => ?_)
  refine lv_iconst (v := 0) hx hb dX4_takeLengths_11 (by decide) ?_
  refine lv_istore_n (lv' := [(3, .int 0), (0, .ref t), (1, .ref r), (2, .int 0)]) hx hb dX4_takeLengths_12 rfl hl (by decide) rfl (fun ls hl => ?_)
  refine lv_iload_n hx hb dX4_takeLengths_13 rfl (lv_at hl 0 rfl) ?_
  refine lv_aload_n hx hb dX4_takeLengths_14 rfl (lv_at hl 1 rfl) ?_
  refine va_get (D := (dC, dI)) (ci := 6) (v := .int 0) (C := RX4) (T := TX4) (N := 8) hx hb hts hiX4 hown hK hP k0 w0 rfl 3 (by decide) hf25 (fun _ h9 => h9) rfl dX4_takeLengths_15 ?_
  refine lv_icmp_ge (tgt := 38) hx hb dX4_takeLengths_18 (by decide) (fun c_4 => ?_) (fun c_4 => absurd (by decide) c_4)
  exact W.vret hx hb hr (fun t ht hW => ⟨⟨(), rfl, trivial, by rw [ht]; exact hP⟩, hS.F ht⟩) hS.2.2 dX4_takeLengths_38
set_option maxHeartbeats 4000000 in
set_option maxRecDepth 100000 in
theorem c_X4_tell_0 (l : Launch) (dC : Nat → ClassId) (dI : Nat → Nat → Nat) (g : Nat → ClassId) (W : va_W) (t : Nat) (p : Nat) (a : Nat) (b : Nat) (p1 : Nat) (p2 : Nat) (r : Nat) (ra : Nat) (rb : Nat) (rc : Nat) (w : Nat) (rw : Int32) (k0 : Nat) (w0 : W[k0]? = some (t, .inr (6, [.ref p, .ref a, .ref b, .int 0, .int 0, .int 0, .int 0, .int 0]))) (k1 : Nat) (w1 : W[k1]? = some (p, .inr (5, [.ref p1, .ref p2, .int 0, .int 2, .int 0, .int 0]))) (k2 : Nat) (w2 : W[k2]? = some (r, .inr (9, [.ref ra, .ref rb, .ref rc, .int 0, .int 0]))) (k3 : Nat) (w3 : W[k3]? = some (w, .inr (10, [.int 0, .int rw, .int 4, .int 0, .int 2]))) (sz : Nat) : Met l yX4_tell wsX4_tell ({ frames := 2, cells := 0, slots := 0, locals := 38 }) (va_Pc [.ref t, .ref r, .ref w] (PG (dC, dI) g W sz)) (va_Qv (fun (_ : Unit) => True) (fun (_ : Unit) t => va_P (dC, dI) vwCl W t.heap) (va_A W sz)) 0 0 (va_A W sz) := by
  refine Met.ofW (cc := cX4_tell) (maxL := 3) (ret := none) (by decide) rfl ?_
  intro p e s m args below meth c s₁ B hml hv
  obtain ⟨rfl, hsz, hP, hK, hD0, hG⟩ := hv
  have hx := B.exec
  have hb := B.bytes
  have hr := B.returns
  have hts := atoms_spec (ws := wsX4_tell) B.pre
  have hown : s.vm.findClass RX4 = some m.cls := findClass_of_methodNamed B.named
  have hlocks := B.notSynchronized
  subst hsz
  have hD := hD0.self (sz := s.heap.size)
  generalize hAe : va_A W s.heap.size = A at hD hG ⊢
  have hA : ∀ q : Nat, s.heap.size ≤ q → A q := fun q h => by rw [← hAe]; exact Or.inr h
  have hS : va_S A s.heap s.heap [] := va_S.rf
  have hl := lv_entry ([.ref t, .ref r, .ref w]) (n := 3) (Nat.le_of_ble_eq_true rfl)
  rw [lg_entry_eq]
  generalize (lg_sl ([.ref t, .ref r, .ref w]) ++ List.replicate (3 - (lg_sl ([.ref t, .ref r, .ref w])).length) Slot.unset).toArray = ls at hl ⊢
  have hl : lv_has ls 3 [(0, .ref t), (1, .ref r), (2, .ref w)] := hl
  have hf12 : (Cond.fieldLink RX4 12 "RunmergeOffice$Plan" "pass" "LRunmergeOffice$Pass;").before args s = true := hts _ (by decide +kernel)
  have hiX4 : ∀ w ∈ u_ws RX4 TX4 8, w ∈ wsX4_tell := by decide +kernel
  have hiX7 : ∀ w ∈ u_ws RX7 TX7 5, w ∈ wsX4_tell := by decide +kernel
  have hf32 : (Cond.fieldLink RX4 32 "RunmergeOffice$Plan" "passes" "I").before args s = true := hts _ (by decide +kernel)
  have hf35 : (Cond.fieldLink RX4 35 "RunmergeOffice$Plan" "moves" "I").before args s = true := hts _ (by decide +kernel)
  have hf38 : (Cond.fieldLink RX4 38 "RunmergeOffice$Plan" "merges" "I").before args s = true := hts _ (by decide +kernel)
  have hf25 : (Cond.fieldLink RX4 25 "RunmergeOffice$Plan" "count" "I").before args s = true := hts _ (by decide +kernel)
  refine lv_aload_n hx hb dX4_tell_0 rfl (lv_at hl 0 rfl) ?_
  refine lv_aload_n hx hb dX4_tell_1 rfl (lv_at hl 1 rfl) ?_
  refine lv_aload_n hx hb dX4_tell_2 rfl (lv_at hl 0 rfl) ?_
  refine va_get (D := (dC, dI)) (ci := 6) (v := .ref p) (C := RX4) (T := TX4) (N := 8) hx hb hts hiX4 hown hK hP k0 w0 rfl 0 (by decide) hf12 (fun _ h9 => h9) rfl dX4_tell_3 ?_
  refine lv_aload_n hx hb dX4_tell_6 rfl (lv_at hl 2 rfl) ?_
  refine lv_aload_n hx hb dX4_tell_7 rfl (lv_at hl 1 rfl) ?_
  refine va_getN (D := (dC, dI)) (ci := 9) (v := .int 0) (C := RX7) (T := TX7) (N := 5) hx hb hts hiX7 hown hK hP k2 w2 rfl 3 (by decide) (nf_26 hG) (fun _ h9 => h9) rfl dX4_tell_8 ?_
  refine va_calli (va_runV (As := [.ref w, .int 0]) (rest := [.ref r, .ref t]) ⟨hx, hb, hml, hown, hts⟩ (c_X3_arrange_0 l dC dI g W p p1 p2 w rw k1 w1 k3 w3  s.heap.size) (cwV 2 hts gX4_tell_X3_arrange rfl rfl rfl (by decide +kernel) ⟨Nat.le_of_ble_eq_true rfl, Nat.le_of_ble_eq_true rfl⟩) ⟨PG_blind, va_recv hK hP (ci := 5) (q0 := k1) rfl w1, PG_call hK hG hS hP hD (A_all hD hA hS.1)⟩ rfl rfl hl.1 rfl (lv_room (Nat.le_of_ble_eq_true rfl)) dX4_tell_11 ⟨Nat.le_of_ble_eq_true rfl, Nat.le_of_ble_eq_true rfl⟩) hS (fun q _ h => (A_all hD hA hS.1) q h) (A_all hD hA hS.1) (fun r_1 u_1 t_1 H_1 L_1 ht_1 hvm_1 hw_1 hB_1 hz_1 hk_1 hS => ?_)
  replace hB_1 := (show va_P (dC, dI) vwCl W t_1.heap from hB_1)
  rw [ht_1] at hB_1
  have hP := hB_1
  obtain rfl : r_1 = 0 := hw_1
  refine va_callv (va_runV (As := [.ref r, .int 0]) (rest := []) ⟨hx, hb, hml, hown, hts⟩ (c_X4_takeLengths l dC dI g W t p a b r k0 w0  H_1.size) (cwV 2 hts gX4_tell_X4_takeLengths rfl rfl rfl (by decide +kernel) ⟨Nat.le_of_ble_eq_true rfl, Nat.le_of_ble_eq_true rfl⟩) ⟨PG_blind, va_recv hK hP (ci := 6) (q0 := k0) rfl w0, PG_call hK hG hS hP hD (A_all hD hA hS.1)⟩ rfl rfl hl.1 rfl (lv_room (Nat.le_of_ble_eq_true rfl)) dX4_tell_14 ⟨Nat.le_of_ble_eq_true rfl, Nat.le_of_ble_eq_true rfl⟩) hS (fun q _ h => (A_all hD hA hS.1) q h) (A_all hD hA hS.1) (fun u_2 t_2 H_2 L_2 ht_2 hvm_2 hw_2 hB_2 hz_2 hk_2 hS => ?_)
  replace hB_2 := (show va_P (dC, dI) vwCl W t_2.heap from hB_2)
  rw [ht_2] at hB_2
  have hP := hB_2
  refine lv_aload_n hx hb dX4_tell_17 rfl (lv_at hl 0 rfl) ?_
  refine lv_iconst (v := 0) hx hb dX4_tell_18 (by decide) ?_
  refine va_putS (D := (dC, dI)) (ci := 6) (v := .int 0) (ty := .int) (C := RX4) (T := TX4) (N := 8) hx hb hts hiX4 tyX4 tyX4_ok nmX4 hown hK hP hD hS k0 w0 rfl 5 (by decide) hf32 (fun _ h9 => h9) rfl (by decide +kernel) rfl rfl (Nat.le_of_ble_eq_true rfl) rfl dX4_tell_19 (fun H_3 L_4 hP hS => ?_)
  refine lv_aload_n hx hb dX4_tell_22 rfl (lv_at hl 0 rfl) ?_
  refine lv_iconst (v := 0) hx hb dX4_tell_23 (by decide) ?_
  refine va_putS (D := (dC, dI)) (ci := 6) (v := .int 0) (ty := .int) (C := RX4) (T := TX4) (N := 8) hx hb hts hiX4 tyX4 tyX4_ok nmX4 hown hK hP hD hS k0 w0 rfl 6 (by decide) hf35 (fun _ h9 => h9) rfl (by decide +kernel) rfl rfl (Nat.le_of_ble_eq_true rfl) rfl dX4_tell_24 (fun H_5 L_6 hP hS => ?_)
  refine lv_aload_n hx hb dX4_tell_27 rfl (lv_at hl 0 rfl) ?_
  refine lv_iconst (v := 0) hx hb dX4_tell_28 (by decide) ?_
  refine va_putS (D := (dC, dI)) (ci := 6) (v := .int 0) (ty := .int) (C := RX4) (T := TX4) (N := 8) hx hb hts hiX4 tyX4 tyX4_ok nmX4 hown hK hP hD hS k0 w0 rfl 7 (by decide) hf38 (fun _ h9 => h9) rfl (by decide +kernel) rfl rfl (Nat.le_of_ble_eq_true rfl) rfl dX4_tell_29 (fun H_7 L_8 hP hS => ?_)
  refine lv_aload_n hx hb dX4_tell_32 rfl (lv_at hl 0 rfl) ?_
  refine va_get (D := (dC, dI)) (ci := 6) (v := .int 0) (C := RX4) (T := TX4) (N := 8) hx hb hts hiX4 hown hK hP k0 w0 rfl 3 (by decide) hf25 (fun _ h9 => h9) rfl dX4_tell_33 ?_
  refine lv_iconst (v := 1) hx hb dX4_tell_36 (by decide) ?_
  refine lv_icmp_le (tgt := 67) hx hb dX4_tell_37 (by decide) (fun c_9 => ?_) (fun c_9 => absurd (by decide) c_9)
  exact W.vret hx hb hr (fun t ht hW => ⟨⟨(), rfl, trivial, by rw [ht]; exact hP⟩, hS.F ht⟩) hS.2.2 dX4_tell_67
set_option maxHeartbeats 4000000 in
set_option maxRecDepth 100000 in
theorem c_X4_tell_1 (l : Launch) (dC : Nat → ClassId) (dI : Nat → Nat → Nat) (g : Nat → ClassId) (W : va_W) (t : Nat) (p : Nat) (a : Nat) (b : Nat) (p1 : Nat) (p2 : Nat) (r : Nat) (ra : Nat) (rb : Nat) (rc : Nat) (w : Nat) (rw : Int32) (k0 : Nat) (w0 : W[k0]? = some (t, .inr (6, [.ref p, .ref a, .ref b, .int 0, .int 0, .int 0, .int 0, .int 0]))) (k1 : Nat) (w1 : W[k1]? = some (p, .inr (5, [.ref p1, .ref p2, .int 1, .int 2, .int 0, .int 0]))) (k2 : Nat) (w2 : W[k2]? = some (r, .inr (9, [.ref ra, .ref rb, .ref rc, .int 0, .int 0]))) (k3 : Nat) (w3 : W[k3]? = some (w, .inr (10, [.int 0, .int rw, .int 4, .int 1, .int 2]))) (sz : Nat) : Met l yX4_tell wsX4_tell ({ frames := 2, cells := 0, slots := 0, locals := 38 }) (va_Pc [.ref t, .ref r, .ref w] (PG (dC, dI) g W sz)) (va_Qv (fun (_ : Unit) => True) (fun (_ : Unit) t => va_P (dC, dI) vwCl W t.heap) (va_A W sz)) 0 0 (va_A W sz) := by
  refine Met.ofW (cc := cX4_tell) (maxL := 3) (ret := none) (by decide) rfl ?_
  intro p e s m args below meth c s₁ B hml hv
  obtain ⟨rfl, hsz, hP, hK, hD0, hG⟩ := hv
  have hx := B.exec
  have hb := B.bytes
  have hr := B.returns
  have hts := atoms_spec (ws := wsX4_tell) B.pre
  have hown : s.vm.findClass RX4 = some m.cls := findClass_of_methodNamed B.named
  have hlocks := B.notSynchronized
  subst hsz
  have hD := hD0.self (sz := s.heap.size)
  generalize hAe : va_A W s.heap.size = A at hD hG ⊢
  have hA : ∀ q : Nat, s.heap.size ≤ q → A q := fun q h => by rw [← hAe]; exact Or.inr h
  have hS : va_S A s.heap s.heap [] := va_S.rf
  have hl := lv_entry ([.ref t, .ref r, .ref w]) (n := 3) (Nat.le_of_ble_eq_true rfl)
  rw [lg_entry_eq]
  generalize (lg_sl ([.ref t, .ref r, .ref w]) ++ List.replicate (3 - (lg_sl ([.ref t, .ref r, .ref w])).length) Slot.unset).toArray = ls at hl ⊢
  have hl : lv_has ls 3 [(0, .ref t), (1, .ref r), (2, .ref w)] := hl
  have hf12 : (Cond.fieldLink RX4 12 "RunmergeOffice$Plan" "pass" "LRunmergeOffice$Pass;").before args s = true := hts _ (by decide +kernel)
  have hiX4 : ∀ w ∈ u_ws RX4 TX4 8, w ∈ wsX4_tell := by decide +kernel
  have hiX7 : ∀ w ∈ u_ws RX7 TX7 5, w ∈ wsX4_tell := by decide +kernel
  have hf32 : (Cond.fieldLink RX4 32 "RunmergeOffice$Plan" "passes" "I").before args s = true := hts _ (by decide +kernel)
  have hf35 : (Cond.fieldLink RX4 35 "RunmergeOffice$Plan" "moves" "I").before args s = true := hts _ (by decide +kernel)
  have hf38 : (Cond.fieldLink RX4 38 "RunmergeOffice$Plan" "merges" "I").before args s = true := hts _ (by decide +kernel)
  have hf25 : (Cond.fieldLink RX4 25 "RunmergeOffice$Plan" "count" "I").before args s = true := hts _ (by decide +kernel)
  refine lv_aload_n hx hb dX4_tell_0 rfl (lv_at hl 0 rfl) ?_
  refine lv_aload_n hx hb dX4_tell_1 rfl (lv_at hl 1 rfl) ?_
  refine lv_aload_n hx hb dX4_tell_2 rfl (lv_at hl 0 rfl) ?_
  refine va_get (D := (dC, dI)) (ci := 6) (v := .ref p) (C := RX4) (T := TX4) (N := 8) hx hb hts hiX4 hown hK hP k0 w0 rfl 0 (by decide) hf12 (fun _ h9 => h9) rfl dX4_tell_3 ?_
  refine lv_aload_n hx hb dX4_tell_6 rfl (lv_at hl 2 rfl) ?_
  refine lv_aload_n hx hb dX4_tell_7 rfl (lv_at hl 1 rfl) ?_
  refine va_getN (D := (dC, dI)) (ci := 9) (v := .int 0) (C := RX7) (T := TX7) (N := 5) hx hb hts hiX7 hown hK hP k2 w2 rfl 3 (by decide) (nf_26 hG) (fun _ h9 => h9) rfl dX4_tell_8 ?_
  refine va_calli (va_runV (As := [.ref w, .int 0]) (rest := [.ref r, .ref t]) ⟨hx, hb, hml, hown, hts⟩ (c_X3_arrange_1 l dC dI g W p p1 p2 w rw k1 w1 k3 w3  s.heap.size) (cwV 2 hts gX4_tell_X3_arrange rfl rfl rfl (by decide +kernel) ⟨Nat.le_of_ble_eq_true rfl, Nat.le_of_ble_eq_true rfl⟩) ⟨PG_blind, va_recv hK hP (ci := 5) (q0 := k1) rfl w1, PG_call hK hG hS hP hD (A_all hD hA hS.1)⟩ rfl rfl hl.1 rfl (lv_room (Nat.le_of_ble_eq_true rfl)) dX4_tell_11 ⟨Nat.le_of_ble_eq_true rfl, Nat.le_of_ble_eq_true rfl⟩) hS (fun q _ h => (A_all hD hA hS.1) q h) (A_all hD hA hS.1) (fun r_1 u_1 t_1 H_1 L_1 ht_1 hvm_1 hw_1 hB_1 hz_1 hk_1 hS => ?_)
  replace hB_1 := (show va_P (dC, dI) vwCl W t_1.heap from hB_1)
  rw [ht_1] at hB_1
  have hP := hB_1
  obtain rfl : r_1 = 0 := hw_1
  refine va_callv (va_runV (As := [.ref r, .int 0]) (rest := []) ⟨hx, hb, hml, hown, hts⟩ (c_X4_takeLengths l dC dI g W t p a b r k0 w0  H_1.size) (cwV 2 hts gX4_tell_X4_takeLengths rfl rfl rfl (by decide +kernel) ⟨Nat.le_of_ble_eq_true rfl, Nat.le_of_ble_eq_true rfl⟩) ⟨PG_blind, va_recv hK hP (ci := 6) (q0 := k0) rfl w0, PG_call hK hG hS hP hD (A_all hD hA hS.1)⟩ rfl rfl hl.1 rfl (lv_room (Nat.le_of_ble_eq_true rfl)) dX4_tell_14 ⟨Nat.le_of_ble_eq_true rfl, Nat.le_of_ble_eq_true rfl⟩) hS (fun q _ h => (A_all hD hA hS.1) q h) (A_all hD hA hS.1) (fun u_2 t_2 H_2 L_2 ht_2 hvm_2 hw_2 hB_2 hz_2 hk_2 hS => ?_)
  replace hB_2 := (show va_P (dC, dI) vwCl W t_2.heap from hB_2)
  rw [ht_2] at hB_2
  have hP := hB_2
  refine lv_aload_n hx hb dX4_tell_17 rfl (lv_at hl 0 rfl) ?_
  refine lv_iconst (v := 0) hx hb dX4_tell_18 (by decide) ?_
  refine va_putS (D := (dC, dI)) (ci := 6) (v := .int 0) (ty := .int) (C := RX4) (T := TX4) (N := 8) hx hb hts hiX4 tyX4 tyX4_ok nmX4 hown hK hP hD hS k0 w0 rfl 5 (by decide) hf32 (fun _ h9 => h9) rfl (by decide +kernel) rfl rfl (Nat.le_of_ble_eq_true rfl) rfl dX4_tell_19 (fun H_3 L_4 hP hS => ?_)
  refine lv_aload_n hx hb dX4_tell_22 rfl (lv_at hl 0 rfl) ?_
  refine lv_iconst (v := 0) hx hb dX4_tell_23 (by decide) ?_
  refine va_putS (D := (dC, dI)) (ci := 6) (v := .int 0) (ty := .int) (C := RX4) (T := TX4) (N := 8) hx hb hts hiX4 tyX4 tyX4_ok nmX4 hown hK hP hD hS k0 w0 rfl 6 (by decide) hf35 (fun _ h9 => h9) rfl (by decide +kernel) rfl rfl (Nat.le_of_ble_eq_true rfl) rfl dX4_tell_24 (fun H_5 L_6 hP hS => ?_)
  refine lv_aload_n hx hb dX4_tell_27 rfl (lv_at hl 0 rfl) ?_
  refine lv_iconst (v := 0) hx hb dX4_tell_28 (by decide) ?_
  refine va_putS (D := (dC, dI)) (ci := 6) (v := .int 0) (ty := .int) (C := RX4) (T := TX4) (N := 8) hx hb hts hiX4 tyX4 tyX4_ok nmX4 hown hK hP hD hS k0 w0 rfl 7 (by decide) hf38 (fun _ h9 => h9) rfl (by decide +kernel) rfl rfl (Nat.le_of_ble_eq_true rfl) rfl dX4_tell_29 (fun H_7 L_8 hP hS => ?_)
  refine lv_aload_n hx hb dX4_tell_32 rfl (lv_at hl 0 rfl) ?_
  refine va_get (D := (dC, dI)) (ci := 6) (v := .int 0) (C := RX4) (T := TX4) (N := 8) hx hb hts hiX4 hown hK hP k0 w0 rfl 3 (by decide) hf25 (fun _ h9 => h9) rfl dX4_tell_33 ?_
  refine lv_iconst (v := 1) hx hb dX4_tell_36 (by decide) ?_
  refine lv_icmp_le (tgt := 67) hx hb dX4_tell_37 (by decide) (fun c_9 => ?_) (fun c_9 => absurd (by decide) c_9)
  exact W.vret hx hb hr (fun t ht hW => ⟨⟨(), rfl, trivial, by rw [ht]; exact hP⟩, hS.F ht⟩) hS.2.2 dX4_tell_67
set_option maxHeartbeats 4000000 in
set_option maxRecDepth 100000 in
theorem c_X4_tell_2 (l : Launch) (dC : Nat → ClassId) (dI : Nat → Nat → Nat) (g : Nat → ClassId) (W : va_W) (t : Nat) (p : Nat) (a : Nat) (b : Nat) (p1 : Nat) (p2 : Nat) (r : Nat) (ra : Nat) (rb : Nat) (rc : Nat) (w : Nat) (rw : Int32) (k0 : Nat) (w0 : W[k0]? = some (t, .inr (6, [.ref p, .ref a, .ref b, .int 0, .int 0, .int 0, .int 0, .int 0]))) (k1 : Nat) (w1 : W[k1]? = some (p, .inr (5, [.ref p1, .ref p2, .int 2, .int 2, .int 0, .int 0]))) (k2 : Nat) (w2 : W[k2]? = some (r, .inr (9, [.ref ra, .ref rb, .ref rc, .int 0, .int 0]))) (k3 : Nat) (w3 : W[k3]? = some (w, .inr (10, [.int 0, .int rw, .int 4, .int 2, .int 2]))) (sz : Nat) : Met l yX4_tell wsX4_tell ({ frames := 2, cells := 0, slots := 0, locals := 38 }) (va_Pc [.ref t, .ref r, .ref w] (PG (dC, dI) g W sz)) (va_Qv (fun (_ : Unit) => True) (fun (_ : Unit) t => va_P (dC, dI) vwCl W t.heap) (va_A W sz)) 0 0 (va_A W sz) := by
  refine Met.ofW (cc := cX4_tell) (maxL := 3) (ret := none) (by decide) rfl ?_
  intro p e s m args below meth c s₁ B hml hv
  obtain ⟨rfl, hsz, hP, hK, hD0, hG⟩ := hv
  have hx := B.exec
  have hb := B.bytes
  have hr := B.returns
  have hts := atoms_spec (ws := wsX4_tell) B.pre
  have hown : s.vm.findClass RX4 = some m.cls := findClass_of_methodNamed B.named
  have hlocks := B.notSynchronized
  subst hsz
  have hD := hD0.self (sz := s.heap.size)
  generalize hAe : va_A W s.heap.size = A at hD hG ⊢
  have hA : ∀ q : Nat, s.heap.size ≤ q → A q := fun q h => by rw [← hAe]; exact Or.inr h
  have hS : va_S A s.heap s.heap [] := va_S.rf
  have hl := lv_entry ([.ref t, .ref r, .ref w]) (n := 3) (Nat.le_of_ble_eq_true rfl)
  rw [lg_entry_eq]
  generalize (lg_sl ([.ref t, .ref r, .ref w]) ++ List.replicate (3 - (lg_sl ([.ref t, .ref r, .ref w])).length) Slot.unset).toArray = ls at hl ⊢
  have hl : lv_has ls 3 [(0, .ref t), (1, .ref r), (2, .ref w)] := hl
  have hf12 : (Cond.fieldLink RX4 12 "RunmergeOffice$Plan" "pass" "LRunmergeOffice$Pass;").before args s = true := hts _ (by decide +kernel)
  have hiX4 : ∀ w ∈ u_ws RX4 TX4 8, w ∈ wsX4_tell := by decide +kernel
  have hiX7 : ∀ w ∈ u_ws RX7 TX7 5, w ∈ wsX4_tell := by decide +kernel
  have hf32 : (Cond.fieldLink RX4 32 "RunmergeOffice$Plan" "passes" "I").before args s = true := hts _ (by decide +kernel)
  have hf35 : (Cond.fieldLink RX4 35 "RunmergeOffice$Plan" "moves" "I").before args s = true := hts _ (by decide +kernel)
  have hf38 : (Cond.fieldLink RX4 38 "RunmergeOffice$Plan" "merges" "I").before args s = true := hts _ (by decide +kernel)
  have hf25 : (Cond.fieldLink RX4 25 "RunmergeOffice$Plan" "count" "I").before args s = true := hts _ (by decide +kernel)
  refine lv_aload_n hx hb dX4_tell_0 rfl (lv_at hl 0 rfl) ?_
  refine lv_aload_n hx hb dX4_tell_1 rfl (lv_at hl 1 rfl) ?_
  refine lv_aload_n hx hb dX4_tell_2 rfl (lv_at hl 0 rfl) ?_
  refine va_get (D := (dC, dI)) (ci := 6) (v := .ref p) (C := RX4) (T := TX4) (N := 8) hx hb hts hiX4 hown hK hP k0 w0 rfl 0 (by decide) hf12 (fun _ h9 => h9) rfl dX4_tell_3 ?_
  refine lv_aload_n hx hb dX4_tell_6 rfl (lv_at hl 2 rfl) ?_
  refine lv_aload_n hx hb dX4_tell_7 rfl (lv_at hl 1 rfl) ?_
  refine va_getN (D := (dC, dI)) (ci := 9) (v := .int 0) (C := RX7) (T := TX7) (N := 5) hx hb hts hiX7 hown hK hP k2 w2 rfl 3 (by decide) (nf_26 hG) (fun _ h9 => h9) rfl dX4_tell_8 ?_
  refine va_calli (va_runV (As := [.ref w, .int 0]) (rest := [.ref r, .ref t]) ⟨hx, hb, hml, hown, hts⟩ (c_X3_arrange_2 l dC dI g W p p1 p2 w rw k1 w1 k3 w3  s.heap.size) (cwV 2 hts gX4_tell_X3_arrange rfl rfl rfl (by decide +kernel) ⟨Nat.le_of_ble_eq_true rfl, Nat.le_of_ble_eq_true rfl⟩) ⟨PG_blind, va_recv hK hP (ci := 5) (q0 := k1) rfl w1, PG_call hK hG hS hP hD (A_all hD hA hS.1)⟩ rfl rfl hl.1 rfl (lv_room (Nat.le_of_ble_eq_true rfl)) dX4_tell_11 ⟨Nat.le_of_ble_eq_true rfl, Nat.le_of_ble_eq_true rfl⟩) hS (fun q _ h => (A_all hD hA hS.1) q h) (A_all hD hA hS.1) (fun r_1 u_1 t_1 H_1 L_1 ht_1 hvm_1 hw_1 hB_1 hz_1 hk_1 hS => ?_)
  replace hB_1 := (show va_P (dC, dI) vwCl W t_1.heap from hB_1)
  rw [ht_1] at hB_1
  have hP := hB_1
  obtain rfl : r_1 = 0 := hw_1
  refine va_callv (va_runV (As := [.ref r, .int 0]) (rest := []) ⟨hx, hb, hml, hown, hts⟩ (c_X4_takeLengths l dC dI g W t p a b r k0 w0  H_1.size) (cwV 2 hts gX4_tell_X4_takeLengths rfl rfl rfl (by decide +kernel) ⟨Nat.le_of_ble_eq_true rfl, Nat.le_of_ble_eq_true rfl⟩) ⟨PG_blind, va_recv hK hP (ci := 6) (q0 := k0) rfl w0, PG_call hK hG hS hP hD (A_all hD hA hS.1)⟩ rfl rfl hl.1 rfl (lv_room (Nat.le_of_ble_eq_true rfl)) dX4_tell_14 ⟨Nat.le_of_ble_eq_true rfl, Nat.le_of_ble_eq_true rfl⟩) hS (fun q _ h => (A_all hD hA hS.1) q h) (A_all hD hA hS.1) (fun u_2 t_2 H_2 L_2 ht_2 hvm_2 hw_2 hB_2 hz_2 hk_2 hS => ?_)
  replace hB_2 := (show va_P (dC, dI) vwCl W t_2.heap from hB_2)
  rw [ht_2] at hB_2
  have hP := hB_2
  refine lv_aload_n hx hb dX4_tell_17 rfl (lv_at hl 0 rfl) ?_
  refine lv_iconst (v := 0) hx hb dX4_tell_18 (by decide) ?_
  refine va_putS (D := (dC, dI)) (ci := 6) (v := .int 0) (ty := .int) (C := RX4) (T := TX4) (N := 8) hx hb hts hiX4 tyX4 tyX4_ok nmX4 hown hK hP hD hS k0 w0 rfl 5 (by decide) hf32 (fun _ h9 => h9) rfl (by decide +kernel) rfl rfl (Nat.le_of_ble_eq_true rfl) rfl dX4_tell_19 (fun H_3 L_4 hP hS => ?_)
  refine lv_aload_n hx hb dX4_tell_22 rfl (lv_at hl 0 rfl) ?_
  refine lv_iconst (v := 0) hx hb dX4_tell_23 (by decide) ?_
  refine va_putS (D := (dC, dI)) (ci := 6) (v := .int 0) (ty := .int) (C := RX4) (T := TX4) (N := 8) hx hb hts hiX4 tyX4 tyX4_ok nmX4 hown hK hP hD hS k0 w0 rfl 6 (by decide) hf35 (fun _ h9 => h9) rfl (by decide +kernel) rfl rfl (Nat.le_of_ble_eq_true rfl) rfl dX4_tell_24 (fun H_5 L_6 hP hS => ?_)
  refine lv_aload_n hx hb dX4_tell_27 rfl (lv_at hl 0 rfl) ?_
  refine lv_iconst (v := 0) hx hb dX4_tell_28 (by decide) ?_
  refine va_putS (D := (dC, dI)) (ci := 6) (v := .int 0) (ty := .int) (C := RX4) (T := TX4) (N := 8) hx hb hts hiX4 tyX4 tyX4_ok nmX4 hown hK hP hD hS k0 w0 rfl 7 (by decide) hf38 (fun _ h9 => h9) rfl (by decide +kernel) rfl rfl (Nat.le_of_ble_eq_true rfl) rfl dX4_tell_29 (fun H_7 L_8 hP hS => ?_)
  refine lv_aload_n hx hb dX4_tell_32 rfl (lv_at hl 0 rfl) ?_
  refine va_get (D := (dC, dI)) (ci := 6) (v := .int 0) (C := RX4) (T := TX4) (N := 8) hx hb hts hiX4 hown hK hP k0 w0 rfl 3 (by decide) hf25 (fun _ h9 => h9) rfl dX4_tell_33 ?_
  refine lv_iconst (v := 1) hx hb dX4_tell_36 (by decide) ?_
  refine lv_icmp_le (tgt := 67) hx hb dX4_tell_37 (by decide) (fun c_9 => ?_) (fun c_9 => absurd (by decide) c_9)
  exact W.vret hx hb hr (fun t ht hW => ⟨⟨(), rfl, trivial, by rw [ht]; exact hP⟩, hS.F ht⟩) hS.2.2 dX4_tell_67
set_option maxHeartbeats 4000000 in
set_option maxRecDepth 100000 in
theorem c_X4_fewestMoves (l : Launch) (dC : Nat → ClassId) (dI : Nat → Nat → Nat) (g : Nat → ClassId) (W : va_W) (t : Nat) (p : Nat) (a : Nat) (b : Nat) (r : Nat) (ra : Nat) (rb : Nat) (rc : Nat) (k0 : Nat) (w0 : W[k0]? = some (t, .inr (6, [.ref p, .ref a, .ref b, .int 0, .int 0, .int 0, .int 0, .int 0]))) (k1 : Nat) (w1 : W[k1]? = some (r, .inr (9, [.ref ra, .ref rb, .ref rc, .int 0, .int 0]))) (sz : Nat) : Met l yX4_fewestMoves wsX4_fewestMoves ({ frames := 2, cells := 0, slots := 0, locals := 37 }) (va_Pc [.ref t, .ref r] (PG (dC, dI) g W sz)) (va_Qi (fun (r : Int32) (_ : Unit) => r = 0) (fun (_ : Unit) t => va_P (dC, dI) vwCl W t.heap) (va_A W sz)) 0 0 (va_A W sz) := by
  refine Met.ofW (cc := cX4_fewestMoves) (maxL := 5) (ret := (some .int)) (by decide) rfl ?_
  intro p e s m args below meth c s₁ B hml hv
  obtain ⟨rfl, hsz, hP, hK, hD0, hG⟩ := hv
  have hx := B.exec
  have hb := B.bytes
  have hr := B.returns
  have hts := atoms_spec (ws := wsX4_fewestMoves) B.pre
  have hown : s.vm.findClass RX4 = some m.cls := findClass_of_methodNamed B.named
  have hlocks := B.notSynchronized
  subst hsz
  have hD := hD0.self (sz := s.heap.size)
  generalize hAe : va_A W s.heap.size = A at hD hG ⊢
  have hA : ∀ q : Nat, s.heap.size ≤ q → A q := fun q h => by rw [← hAe]; exact Or.inr h
  have hS : va_S A s.heap s.heap [] := va_S.rf
  have hl := lv_entry ([.ref t, .ref r]) (n := 5) (Nat.le_of_ble_eq_true rfl)
  rw [lg_entry_eq]
  generalize (lg_sl ([.ref t, .ref r]) ++ List.replicate (5 - (lg_sl ([.ref t, .ref r])).length) Slot.unset).toArray = ls at hl ⊢
  have hl : lv_has ls 5 [(0, .ref t), (1, .ref r)] := hl
  have hiX7 : ∀ w ∈ u_ws RX7 TX7 5, w ∈ wsX4_fewestMoves := by decide +kernel
  have hf25 : (Cond.fieldLink RX4 25 "RunmergeOffice$Plan" "count" "I").before args s = true := hts _ (by decide +kernel)
  have hiX4 : ∀ w ∈ u_ws RX4 TX4 8, w ∈ wsX4_fewestMoves := by decide +kernel
  refine lv_aload_n hx hb dX4_fewestMoves_0 rfl (lv_at hl 0 rfl) ?_
  refine lv_aload_n hx hb dX4_fewestMoves_1 rfl (lv_at hl 1 rfl) ?_
  refine lv_aload_n hx hb dX4_fewestMoves_2 rfl (lv_at hl 1 rfl) ?_
  refine va_getN (D := (dC, dI)) (ci := 9) (v := .int 0) (C := RX7) (T := TX7) (N := 5) hx hb hts hiX7 hown hK hP k1 w1 rfl 3 (by decide) (nf_26 hG) (fun _ h9 => h9) rfl dX4_fewestMoves_3 ?_
  refine va_callv (va_runV (As := [.ref r, .int 0]) (rest := []) ⟨hx, hb, hml, hown, hts⟩ (c_X4_takeLengths l dC dI g W t p a b r k0 w0  s.heap.size) (cwV 2 hts gX4_fewestMoves_X4_takeLengths rfl rfl rfl (by decide +kernel) ⟨Nat.le_of_ble_eq_true rfl, Nat.le_of_ble_eq_true rfl⟩) ⟨PG_blind, va_recv hK hP (ci := 6) (q0 := k0) rfl w0, PG_call hK hG hS hP hD (A_all hD hA hS.1)⟩ rfl rfl hl.1 rfl (lv_room (Nat.le_of_ble_eq_true rfl)) dX4_fewestMoves_6 ⟨Nat.le_of_ble_eq_true rfl, Nat.le_of_ble_eq_true rfl⟩) hS (fun q _ h => (A_all hD hA hS.1) q h) (A_all hD hA hS.1) (fun u_1 t_1 H_1 L_1 ht_1 hvm_1 hw_1 hB_1 hz_1 hk_1 hS => ?_)
  replace hB_1 := (show va_P (dC, dI) vwCl W t_1.heap from hB_1)
  rw [ht_1] at hB_1
  have hP := hB_1
  refine lv_iconst (v := 0) hx hb dX4_fewestMoves_9 (by decide) ?_
  refine lv_istore_n (lv' := [(2, .int 0), (0, .ref t), (1, .ref r)]) hx hb dX4_fewestMoves_10 rfl hl (by decide) rfl (fun ls hl => ?_)
  refine lv_aload_n hx hb dX4_fewestMoves_11 rfl (lv_at hl 1 rfl) ?_
  refine va_get (D := (dC, dI)) (ci := 6) (v := .int 0) (C := RX4) (T := TX4) (N := 8) hx hb hts hiX4 hown hK hP k0 w0 rfl 3 (by decide) hf25 (fun _ h9 => h9) rfl dX4_fewestMoves_12 ?_
  refine lv_istore_n (lv' := [(3, .int 0), (2, .int 0), (0, .ref t), (1, .ref r)]) hx hb dX4_fewestMoves_15 rfl hl (by decide) rfl (fun ls hl => ?_)
  refine lv_iload_n hx hb dX4_fewestMoves_16 rfl (lv_at hl 0 rfl) ?_
  refine lv_iconst (v := 1) hx hb dX4_fewestMoves_17 (by decide) ?_
  refine lv_icmp_le (tgt := 66) hx hb dX4_fewestMoves_18 (by decide) (fun c_2 => ?_) (fun c_2 => absurd (by decide) c_2)
  refine lv_iload_n hx hb dX4_fewestMoves_66 rfl (lv_at hl 1 rfl) ?_
  exact W.iret (v := 0) hx hb hr (fun t ht hW => ⟨⟨0, (), rfl, rfl, by rw [ht]; exact hP⟩, hS.F ht⟩) hS.2.2 dX4_fewestMoves_67
set_option maxHeartbeats 4000000 in
set_option maxRecDepth 100000 in
theorem c_X10_byteAt (l : Launch) (dC : Nat → ClassId) (dI : Nat → Nat → Nat) (g : Nat → ClassId) (W : va_W) (t : Nat) (b : Nat) (k0 : Nat) (w0 : W[k0]? = some (t, .inr (12, [.ref b, .int 0]))) (sz : Nat) : Met l yX10_byteAt wsX10_byteAt ({ frames := 0, cells := 0, slots := 0, locals := 0 }) (va_Pc [.ref t, .int 0] (PG (dC, dI) g W sz)) (va_Qi (fun (r : Int32) (_ : Unit) => r = 0) (fun (_ : Unit) t => va_P (dC, dI) vwCl W t.heap) (va_A W sz)) 0 0 (va_A W sz) := by
  refine Met.ofW (cc := cX10_byteAt) (maxL := 2) (ret := (some .int)) (by decide) rfl ?_
  intro p e s m args below meth c s₁ B hml hv
  obtain ⟨rfl, hsz, hP, hK, hD0, hG⟩ := hv
  have hx := B.exec
  have hb := B.bytes
  have hr := B.returns
  have hts := atoms_spec (ws := wsX10_byteAt) B.pre
  have hown : s.vm.findClass RX10 = some m.cls := findClass_of_methodNamed B.named
  have hlocks := B.notSynchronized
  subst hsz
  have hD := hD0.self (sz := s.heap.size)
  generalize hAe : va_A W s.heap.size = A at hD hG ⊢
  have hA : ∀ q : Nat, s.heap.size ≤ q → A q := fun q h => by rw [← hAe]; exact Or.inr h
  have hS : va_S A s.heap s.heap [] := va_S.rf
  have hl := lv_entry ([.ref t, .int 0]) (n := 2) (Nat.le_of_ble_eq_true rfl)
  rw [lg_entry_eq]
  generalize (lg_sl ([.ref t, .int 0]) ++ List.replicate (2 - (lg_sl ([.ref t, .int 0])).length) Slot.unset).toArray = ls at hl ⊢
  have hl : lv_has ls 2 [(0, .ref t), (1, .int 0)] := hl
  have hf15 : (Cond.fieldLink RX10 15 "RunmergeOffice$Text" "size" "I").before args s = true := hts _ (by decide +kernel)
  have hiX10 : ∀ w ∈ u_ws RX10 TX10 2, w ∈ wsX10_byteAt := by decide +kernel
  refine lv_iload_n hx hb dX10_byteAt_0 rfl (lv_at hl 1 rfl) ?_
  refine lv_if_lt (tgt := 28) hx hb dX10_byteAt_1 (by decide) (fun c_1 => absurd c_1 (by decide)) (fun c_1 => ?_)
  refine lv_iload_n hx hb dX10_byteAt_4 rfl (lv_at hl 1 rfl) ?_
  refine lv_aload_n hx hb dX10_byteAt_5 rfl (lv_at hl 0 rfl) ?_
  refine va_get (D := (dC, dI)) (ci := 12) (v := .int 0) (C := RX10) (T := TX10) (N := 2) hx hb hts hiX10 hown hK hP k0 w0 rfl 1 (by decide) hf15 (fun _ h9 => h9) rfl dX10_byteAt_6 ?_
  refine lv_icmp_ge (tgt := 28) hx hb dX10_byteAt_9 (by decide) (fun c_2 => ?_) (fun c_2 => absurd (by decide) c_2)
  refine lv_iconst (v := 0) hx hb dX10_byteAt_28 (by decide) ?_
  exact W.iret (v := 0) hx hb hr (fun t ht hW => ⟨⟨0, (), rfl, rfl, by rw [ht]; exact hP⟩, hS.F ht⟩) hS.2.2 dX10_byteAt_29
set_option maxHeartbeats 4000000 in
set_option maxRecDepth 100000 in
theorem c_X10_empty (l : Launch) (dC : Nat → ClassId) (dI : Nat → Nat → Nat) (g : Nat → ClassId) (W : va_W) (t : Nat) (b : Nat) (k0 : Nat) (w0 : W[k0]? = some (t, .inr (12, [.ref b, .int 0]))) (sz : Nat) : Met l yX10_empty wsX10_empty ({ frames := 0, cells := 0, slots := 0, locals := 0 }) (va_Pc [.ref t] (PG (dC, dI) g W sz)) (va_Qv (fun (_ : Unit) => True) (fun (_ : Unit) t => va_P (dC, dI) vwCl W t.heap) (va_A W sz)) 0 0 (va_A W sz) := by
  refine Met.ofW (cc := cX10_empty) (maxL := 1) (ret := none) (by decide) rfl ?_
  intro p e s m args below meth c s₁ B hml hv
  obtain ⟨rfl, hsz, hP, hK, hD0, hG⟩ := hv
  have hx := B.exec
  have hb := B.bytes
  have hr := B.returns
  have hts := atoms_spec (ws := wsX10_empty) B.pre
  have hown : s.vm.findClass RX10 = some m.cls := findClass_of_methodNamed B.named
  have hlocks := B.notSynchronized
  subst hsz
  have hD := hD0.self (sz := s.heap.size)
  generalize hAe : va_A W s.heap.size = A at hD hG ⊢
  have hA : ∀ q : Nat, s.heap.size ≤ q → A q := fun q h => by rw [← hAe]; exact Or.inr h
  have hS : va_S A s.heap s.heap [] := va_S.rf
  have hl := lv_entry ([.ref t]) (n := 1) (Nat.le_of_ble_eq_true rfl)
  rw [lg_entry_eq]
  generalize (lg_sl ([.ref t]) ++ List.replicate (1 - (lg_sl ([.ref t])).length) Slot.unset).toArray = ls at hl ⊢
  have hl : lv_has ls 1 [(0, .ref t)] := hl
  have hf15 : (Cond.fieldLink RX10 15 "RunmergeOffice$Text" "size" "I").before args s = true := hts _ (by decide +kernel)
  have hiX10 : ∀ w ∈ u_ws RX10 TX10 2, w ∈ wsX10_empty := by decide +kernel
  refine lv_aload_n hx hb dX10_empty_0 rfl (lv_at hl 0 rfl) ?_
  refine lv_iconst (v := 0) hx hb dX10_empty_1 (by decide) ?_
  refine va_putS (D := (dC, dI)) (ci := 12) (v := .int 0) (ty := .int) (C := RX10) (T := TX10) (N := 2) hx hb hts hiX10 tyX10 tyX10_ok nmX10 hown hK hP hD hS k0 w0 rfl 1 (by decide) hf15 (fun _ h9 => h9) rfl (by decide +kernel) rfl rfl (Nat.le_of_ble_eq_true rfl) rfl dX10_empty_2 (fun H_1 L_2 hP hS => ?_)
  exact W.vret hx hb hr (fun t ht hW => ⟨⟨(), rfl, trivial, by rw [ht]; exact hP⟩, hS.F ht⟩) hS.2.2 dX10_empty_5
set_option maxHeartbeats 4000000 in
set_option maxRecDepth 100000 in
theorem c_X5_kindOf (l : Launch) (dC : Nat → ClassId) (dI : Nat → Nat → Nat) (g : Nat → ClassId) (W : va_W) (sz : Nat) : Met l yX5_kindOf wsX5_kindOf ({ frames := 0, cells := 0, slots := 0, locals := 0 }) (va_Pc [.int 0] (PG (dC, dI) g W sz)) (va_Qi (fun (r : Int32) (_ : Unit) => r = 0) (fun (_ : Unit) t => va_P (dC, dI) vwCl W t.heap) (va_A W sz)) 0 0 (va_A W sz) := by
  refine Met.ofW (cc := cX5_kindOf) (maxL := 1) (ret := (some .int)) (by decide) rfl ?_
  intro p e s m args below meth c s₁ B hml hv
  obtain ⟨rfl, hsz, hP, hK, hD0, hG⟩ := hv
  have hx := B.exec
  have hb := B.bytes
  have hr := B.returns
  have hts := atoms_spec (ws := wsX5_kindOf) B.pre
  have hown : s.vm.findClass RX5 = some m.cls := findClass_of_methodNamed B.named
  have hlocks := B.notSynchronized
  subst hsz
  have hD := hD0.self (sz := s.heap.size)
  generalize hAe : va_A W s.heap.size = A at hD hG ⊢
  have hA : ∀ q : Nat, s.heap.size ≤ q → A q := fun q h => by rw [← hAe]; exact Or.inr h
  have hS : va_S A s.heap s.heap [] := va_S.rf
  have hl := lv_entry ([.int 0]) (n := 1) (Nat.le_of_ble_eq_true rfl)
  rw [lg_entry_eq]
  generalize (lg_sl ([.int 0]) ++ List.replicate (1 - (lg_sl ([.int 0])).length) Slot.unset).toArray = ls at hl ⊢
  have hl : lv_has ls 1 [(0, .int 0)] := hl
  refine lv_iload_n hx hb dX5_kindOf_0 rfl (lv_at hl 0 rfl) ?_
  refine lv_if_ne (tgt := 6) hx hb dX5_kindOf_1 (by decide) (fun c_1 => absurd (by decide) c_1) (fun c_1 => ?_)
  refine lv_iconst (v := 0) hx hb dX5_kindOf_4 (by decide) ?_
  exact W.iret (v := 0) hx hb hr (fun t ht hW => ⟨⟨0, (), rfl, rfl, by rw [ht]; exact hP⟩, hS.F ht⟩) hS.2.2 dX5_kindOf_5
set_option maxHeartbeats 4000000 in
set_option maxRecDepth 100000 in
theorem c_X5_restart (l : Launch) (dC : Nat → ClassId) (dI : Nat → Nat → Nat) (g : Nat → ClassId) (W : va_W) (t : Nat) (x : Nat) (op : Nat) (to : Nat) (k0 : Nat) (w0 : W[k0]? = some (t, .inr (7, [.ref x, .ref op, .ref to, .int 0, .int 0, .int 0, .int 0, .int 0, .int 0, .int 0, .int 0, .int 0, .int (-1)]))) (sz : Nat) : Met l yX5_restart wsX5_restart ({ frames := 0, cells := 0, slots := 0, locals := 0 }) (va_Pc [.ref t] (PG (dC, dI) g W sz)) (va_Qv (fun (_ : Unit) => True) (fun (_ : Unit) t => va_P (dC, dI) vwCl W t.heap) (va_A W sz)) 0 0 (va_A W sz) := by
  refine Met.ofW (cc := cX5_restart) (maxL := 1) (ret := none) (by decide) rfl ?_
  intro p e s m args below meth c s₁ B hml hv
  obtain ⟨rfl, hsz, hP, hK, hD0, hG⟩ := hv
  have hx := B.exec
  have hb := B.bytes
  have hr := B.returns
  have hts := atoms_spec (ws := wsX5_restart) B.pre
  have hown : s.vm.findClass RX5 = some m.cls := findClass_of_methodNamed B.named
  have hlocks := B.notSynchronized
  subst hsz
  have hD := hD0.self (sz := s.heap.size)
  generalize hAe : va_A W s.heap.size = A at hD hG ⊢
  have hA : ∀ q : Nat, s.heap.size ≤ q → A q := fun q h => by rw [← hAe]; exact Or.inr h
  have hS : va_S A s.heap s.heap [] := va_S.rf
  have hl := lv_entry ([.ref t]) (n := 1) (Nat.le_of_ble_eq_true rfl)
  rw [lg_entry_eq]
  generalize (lg_sl ([.ref t]) ++ List.replicate (1 - (lg_sl ([.ref t])).length) Slot.unset).toArray = ls at hl ⊢
  have hl : lv_has ls 1 [(0, .ref t)] := hl
  have hf36 : (Cond.fieldLink RX5 36 "RunmergeOffice$Reader" "wordEnd" "I").before args s = true := hts _ (by decide +kernel)
  have hiX5 : ∀ w ∈ u_ws RX5 TX5 13, w ∈ wsX5_restart := by decide +kernel
  have hf55 : (Cond.fieldLink RX5 55 "RunmergeOffice$Reader" "faultKind" "I").before args s = true := hts _ (by decide +kernel)
  have hf58 : (Cond.fieldLink RX5 58 "RunmergeOffice$Reader" "faultPlace" "I").before args s = true := hts _ (by decide +kernel)
  refine lv_aload_n hx hb dX5_restart_0 rfl (lv_at hl 0 rfl) ?_
  refine lv_iconst (v := 0) hx hb dX5_restart_1 (by decide) ?_
  refine va_putS (D := (dC, dI)) (ci := 7) (v := .int 0) (ty := .int) (C := RX5) (T := TX5) (N := 13) hx hb hts hiX5 tyX5 tyX5_ok nmX5 hown hK hP hD hS k0 w0 rfl 5 (by decide) hf36 (fun _ h9 => h9) rfl (by decide +kernel) rfl rfl (Nat.le_of_ble_eq_true rfl) rfl dX5_restart_2 (fun H_1 L_2 hP hS => ?_)
  refine lv_aload_n hx hb dX5_restart_5 rfl (lv_at hl 0 rfl) ?_
  refine lv_iconst (v := 0) hx hb dX5_restart_6 (by decide) ?_
  refine va_putS (D := (dC, dI)) (ci := 7) (v := .int 0) (ty := .int) (C := RX5) (T := TX5) (N := 13) hx hb hts hiX5 tyX5 tyX5_ok nmX5 hown hK hP hD hS k0 w0 rfl 11 (by decide) hf55 (fun _ h9 => h9) rfl (by decide +kernel) rfl rfl (Nat.le_of_ble_eq_true rfl) rfl dX5_restart_7 (fun H_3 L_4 hP hS => ?_)
  refine lv_aload_n hx hb dX5_restart_10 rfl (lv_at hl 0 rfl) ?_
  refine lv_iconst (v := (-1)) hx hb dX5_restart_11 (by decide) ?_
  refine va_putS (D := (dC, dI)) (ci := 7) (v := .int (-1)) (ty := .int) (C := RX5) (T := TX5) (N := 13) hx hb hts hiX5 tyX5 tyX5_ok nmX5 hown hK hP hD hS k0 w0 rfl 12 (by decide) hf58 (fun _ h9 => h9) rfl (by decide +kernel) rfl rfl (Nat.le_of_ble_eq_true rfl) rfl dX5_restart_12 (fun H_5 L_6 hP hS => ?_)
  exact W.vret hx hb hr (fun t ht hW => ⟨⟨(), rfl, trivial, by rw [ht]; exact hP⟩, hS.F ht⟩) hS.2.2 dX5_restart_15
set_option maxHeartbeats 4000000 in
set_option maxRecDepth 100000 in
theorem c_X5_readWord (l : Launch) (dC : Nat → ClassId) (dI : Nat → Nat → Nat) (g : Nat → ClassId) (W : va_W) (t : Nat) (x : Nat) (op : Nat) (to : Nat) (b : Nat) (k0 : Nat) (w0 : W[k0]? = some (t, .inr (7, [.ref x, .ref op, .ref to, .int 0, .int 0, .int 0, .int 0, .int 0, .int 0, .int 0, .int 0, .int 0, .int (-1)]))) (k1 : Nat) (w1 : W[k1]? = some (x, .inr (12, [.ref b, .int 0]))) (sz : Nat) : Met l yX5_readWord wsX5_readWord ({ frames := 1, cells := 0, slots := 0, locals := 21 }) (va_Pc [.ref t] (PG (dC, dI) g W sz)) (va_Qv (fun (_ : Unit) => True) (fun (_ : Unit) t => va_P (dC, dI) vwCl W t.heap) (va_A W sz)) 0 0 (va_A W sz) := by
  refine Met.ofW (cc := cX5_readWord) (maxL := 1) (ret := none) (by decide) rfl ?_
  intro p e s m args below meth c s₁ B hml hv
  obtain ⟨rfl, hsz, hP, hK, hD0, hG⟩ := hv
  have hx := B.exec
  have hb := B.bytes
  have hr := B.returns
  have hts := atoms_spec (ws := wsX5_readWord) B.pre
  have hown : s.vm.findClass RX5 = some m.cls := findClass_of_methodNamed B.named
  have hlocks := B.notSynchronized
  subst hsz
  have hD := hD0.self (sz := s.heap.size)
  generalize hAe : va_A W s.heap.size = A at hD hG ⊢
  have hA : ∀ q : Nat, s.heap.size ≤ q → A q := fun q h => by rw [← hAe]; exact Or.inr h
  have hS : va_S A s.heap s.heap [] := va_S.rf
  have hl := lv_entry ([.ref t]) (n := 1) (Nat.le_of_ble_eq_true rfl)
  rw [lg_entry_eq]
  generalize (lg_sl ([.ref t]) ++ List.replicate (1 - (lg_sl ([.ref t])).length) Slot.unset).toArray = ls at hl ⊢
  have hl : lv_has ls 1 [(0, .ref t)] := hl
  have hf36 : (Cond.fieldLink RX5 36 "RunmergeOffice$Reader" "wordEnd" "I").before args s = true := hts _ (by decide +kernel)
  have hiX5 : ∀ w ∈ u_ws RX5 TX5 13, w ∈ wsX5_readWord := by decide +kernel
  have hf33 : (Cond.fieldLink RX5 33 "RunmergeOffice$Reader" "wordPlace" "I").before args s = true := hts _ (by decide +kernel)
  have hf12 : (Cond.fieldLink RX5 12 "RunmergeOffice$Reader" "text" "LRunmergeOffice$Text;").before args s = true := hts _ (by decide +kernel)
  have hiX10 : ∀ w ∈ u_ws RX10 TX10 2, w ∈ wsX5_readWord := by decide +kernel
  have hf29 : (Cond.fieldLink RX5 29 "RunmergeOffice$Reader" "wordKind" "I").before args s = true := hts _ (by decide +kernel)
  refine lv_aload_n hx hb dX5_readWord_0 rfl (lv_at hl 0 rfl) ?_
  refine lv_aload_n hx hb dX5_readWord_1 rfl (lv_at hl 0 rfl) ?_
  refine va_get (D := (dC, dI)) (ci := 7) (v := .int 0) (C := RX5) (T := TX5) (N := 13) hx hb hts hiX5 hown hK hP k0 w0 rfl 5 (by decide) hf36 (fun _ h9 => h9) rfl dX5_readWord_2 ?_
  refine va_putS (D := (dC, dI)) (ci := 7) (v := .int 0) (ty := .int) (C := RX5) (T := TX5) (N := 13) hx hb hts hiX5 tyX5 tyX5_ok nmX5 hown hK hP hD hS k0 w0 rfl 4 (by decide) hf33 (fun _ h9 => h9) rfl (by decide +kernel) rfl rfl (Nat.le_of_ble_eq_true rfl) rfl dX5_readWord_5 (fun H_1 L_2 hP hS => ?_)
  refine lv_aload_n hx hb dX5_readWord_8 rfl (lv_at hl 0 rfl) ?_
  refine va_get (D := (dC, dI)) (ci := 7) (v := .int 0) (C := RX5) (T := TX5) (N := 13) hx hb hts hiX5 hown hK hP k0 w0 rfl 4 (by decide) hf33 (fun _ h9 => h9) rfl dX5_readWord_9 ?_
  refine lv_aload_n hx hb dX5_readWord_12 rfl (lv_at hl 0 rfl) ?_
  refine va_get (D := (dC, dI)) (ci := 7) (v := .ref x) (C := RX5) (T := TX5) (N := 13) hx hb hts hiX5 hown hK hP k0 w0 rfl 0 (by decide) hf12 (fun _ h9 => h9) rfl dX5_readWord_13 ?_
  refine va_getN (D := (dC, dI)) (ci := 12) (v := .int 0) (C := RX10) (T := TX10) (N := 2) hx hb hts hiX10 hown hK hP k1 w1 rfl 1 (by decide) (nf_50 hG) (fun _ h9 => h9) rfl dX5_readWord_16 ?_
  refine lv_icmp_ge (tgt := 51) hx hb dX5_readWord_19 (by decide) (fun c_3 => ?_) (fun c_3 => absurd (by decide) c_3)
  refine lv_aload_n hx hb dX5_readWord_51 rfl (lv_at hl 0 rfl) ?_
  refine lv_aload_n hx hb dX5_readWord_52 rfl (lv_at hl 0 rfl) ?_
  refine va_get (D := (dC, dI)) (ci := 7) (v := .ref x) (C := RX5) (T := TX5) (N := 13) hx hb hts hiX5 hown hK hP k0 w0 rfl 0 (by decide) hf12 (fun _ h9 => h9) rfl dX5_readWord_53 ?_
  refine lv_aload_n hx hb dX5_readWord_56 rfl (lv_at hl 0 rfl) ?_
  refine va_get (D := (dC, dI)) (ci := 7) (v := .int 0) (C := RX5) (T := TX5) (N := 13) hx hb hts hiX5 hown hK hP k0 w0 rfl 4 (by decide) hf33 (fun _ h9 => h9) rfl dX5_readWord_57 ?_
  refine va_calli (va_runV (As := [.int 0]) (rest := [.ref t]) ⟨hx, hb, hml, hown, hts⟩ (c_X10_byteAt l dC dI g W x b k1 w1  H_1.size) (cwV 1 hts gX5_readWord_X10_byteAt rfl rfl rfl (by decide +kernel) ⟨Nat.le_of_ble_eq_true rfl, Nat.le_of_ble_eq_true rfl⟩) ⟨PG_blind, va_recv hK hP (ci := 12) (q0 := k1) rfl w1, PG_call hK hG hS hP hD (A_all hD hA hS.1)⟩ rfl rfl hl.1 rfl (lv_room (Nat.le_of_ble_eq_true rfl)) dX5_readWord_60 ⟨Nat.le_of_ble_eq_true rfl, Nat.le_of_ble_eq_true rfl⟩) hS (fun q _ h => (A_all hD hA hS.1) q h) (A_all hD hA hS.1) (fun r_4 u_4 t_4 H_4 L_4 ht_4 hvm_4 hw_4 hB_4 hz_4 hk_4 hS => ?_)
  replace hB_4 := (show va_P (dC, dI) vwCl W t_4.heap from hB_4)
  rw [ht_4] at hB_4
  have hP := hB_4
  obtain rfl : r_4 = 0 := hw_4
  refine va_calli (va_runS (As := [.int 0]) (rest := [.ref t]) ⟨hx, hb, hml, hown, hts⟩ (c_X5_kindOf l dC dI g W    H_4.size) (va_cwS 1 hts gX5_readWord_X5_kindOf rfl rfl rfl (by decide +kernel) ⟨Nat.le_of_ble_eq_true rfl, Nat.le_of_ble_eq_true rfl⟩) ⟨PG_blind, PG_call hK hG hS hP hD (A_all hD hA hS.1)⟩ rfl rfl hl.1 rfl (lv_room (Nat.le_of_ble_eq_true rfl)) dX5_readWord_63 ⟨Nat.le_of_ble_eq_true rfl, Nat.le_of_ble_eq_true rfl⟩) hS (fun q _ h => (A_all hD hA hS.1) q h) (A_all hD hA hS.1) (fun r_5 u_5 t_5 H_5 L_5 ht_5 hvm_5 hw_5 hB_5 hz_5 hk_5 hS => ?_)
  replace hB_5 := (show va_P (dC, dI) vwCl W t_5.heap from hB_5)
  rw [ht_5] at hB_5
  have hP := hB_5
  obtain rfl : r_5 = 0 := hw_5
  refine va_putS (D := (dC, dI)) (ci := 7) (v := .int 0) (ty := .int) (C := RX5) (T := TX5) (N := 13) hx hb hts hiX5 tyX5 tyX5_ok nmX5 hown hK hP hD hS k0 w0 rfl 3 (by decide) hf29 (fun _ h9 => h9) rfl (by decide +kernel) rfl rfl (Nat.le_of_ble_eq_true rfl) rfl dX5_readWord_66 (fun H_6 L_7 hP hS => ?_)
  refine lv_aload_n hx hb dX5_readWord_69 rfl (lv_at hl 0 rfl) ?_
  refine lv_aload_n hx hb dX5_readWord_70 rfl (lv_at hl 0 rfl) ?_
  refine va_get (D := (dC, dI)) (ci := 7) (v := .int 0) (C := RX5) (T := TX5) (N := 13) hx hb hts hiX5 hown hK hP k0 w0 rfl 4 (by decide) hf33 (fun _ h9 => h9) rfl dX5_readWord_71 ?_
  refine va_putS (D := (dC, dI)) (ci := 7) (v := .int 0) (ty := .int) (C := RX5) (T := TX5) (N := 13) hx hb hts hiX5 tyX5 tyX5_ok nmX5 hown hK hP hD hS k0 w0 rfl 5 (by decide) hf36 (fun _ h9 => h9) rfl (by decide +kernel) rfl rfl (Nat.le_of_ble_eq_true rfl) rfl dX5_readWord_74 (fun H_8 L_9 hP hS => ?_)
  refine lv_aload_n hx hb dX5_readWord_77 rfl (lv_at hl 0 rfl) ?_
  refine va_get (D := (dC, dI)) (ci := 7) (v := .int 0) (C := RX5) (T := TX5) (N := 13) hx hb hts hiX5 hown hK hP k0 w0 rfl 3 (by decide) hf29 (fun _ h9 => h9) rfl dX5_readWord_78 ?_
  refine lv_iconst (v := 1) hx hb dX5_readWord_81 (by decide) ?_
  refine lv_icmp_eq (tgt := 93) hx hb dX5_readWord_82 (by decide) (fun c_10 => absurd c_10 (by decide)) (fun c_10 => ?_)
  refine lv_aload_n hx hb dX5_readWord_85 rfl (lv_at hl 0 rfl) ?_
  refine va_get (D := (dC, dI)) (ci := 7) (v := .int 0) (C := RX5) (T := TX5) (N := 13) hx hb hts hiX5 hown hK hP k0 w0 rfl 3 (by decide) hf29 (fun _ h9 => h9) rfl dX5_readWord_86 ?_
  refine lv_iconst (v := 2) hx hb dX5_readWord_89 (by decide) ?_
  refine lv_icmp_ne (tgt := 141) hx hb dX5_readWord_90 (by decide) (fun c_11 => ?_) (fun c_11 => absurd c_11 (by decide))
  refine lv_aload_n hx hb dX5_readWord_141 rfl (lv_at hl 0 rfl) ?_
  refine va_get (D := (dC, dI)) (ci := 7) (v := .int 0) (C := RX5) (T := TX5) (N := 13) hx hb hts hiX5 hown hK hP k0 w0 rfl 3 (by decide) hf29 (fun _ h9 => h9) rfl dX5_readWord_142 ?_
  refine lv_if_eq (tgt := 158) hx hb dX5_readWord_145 (by decide) (fun c_12 => ?_) (fun c_12 => absurd (by decide) c_12)
  exact W.vret hx hb hr (fun t ht hW => ⟨⟨(), rfl, trivial, by rw [ht]; exact hP⟩, hS.F ht⟩) hS.2.2 dX5_readWord_158
set_option maxHeartbeats 4000000 in
set_option maxRecDepth 100000 in
theorem c_X5_readStatement (l : Launch) (dC : Nat → ClassId) (dI : Nat → Nat → Nat) (g : Nat → ClassId) (W : va_W) (t : Nat) (x : Nat) (op : Nat) (to : Nat) (b : Nat) (w : Nat) (k0 : Nat) (w0 : W[k0]? = some (t, .inr (7, [.ref x, .ref op, .ref to, .int 0, .int 0, .int 0, .int 0, .int 0, .int 0, .int 0, .int 0, .int 0, .int (-1)]))) (k1 : Nat) (w1 : W[k1]? = some (x, .inr (12, [.ref b, .int 0]))) (sz : Nat) : Met l yX5_readStatement wsX5_readStatement ({ frames := 2, cells := 0, slots := 0, locals := 41 }) (va_Pc [.ref t, .ref w] (PG (dC, dI) g W sz)) (va_Qi (fun (r : Int32) (_ : Unit) => r = 0) (fun (_ : Unit) t => va_P (dC, dI) vwCl W t.heap) (va_A W sz)) 0 0 (va_A W sz) := by
  refine Met.ofW (cc := cX5_readStatement) (maxL := 2) (ret := (some .boolean)) (by decide) rfl ?_
  intro p e s m args below meth c s₁ B hml hv
  obtain ⟨rfl, hsz, hP, hK, hD0, hG⟩ := hv
  have hx := B.exec
  have hb := B.bytes
  have hr := B.returns
  have hts := atoms_spec (ws := wsX5_readStatement) B.pre
  have hown : s.vm.findClass RX5 = some m.cls := findClass_of_methodNamed B.named
  have hlocks := B.notSynchronized
  subst hsz
  have hD := hD0.self (sz := s.heap.size)
  generalize hAe : va_A W s.heap.size = A at hD hG ⊢
  have hA : ∀ q : Nat, s.heap.size ≤ q → A q := fun q h => by rw [← hAe]; exact Or.inr h
  have hS : va_S A s.heap s.heap [] := va_S.rf
  have hl := lv_entry ([.ref t, .ref w]) (n := 2) (Nat.le_of_ble_eq_true rfl)
  rw [lg_entry_eq]
  generalize (lg_sl ([.ref t, .ref w]) ++ List.replicate (2 - (lg_sl ([.ref t, .ref w])).length) Slot.unset).toArray = ls at hl ⊢
  have hl : lv_has ls 2 [(0, .ref t), (1, .ref w)] := hl
  have hf29 : (Cond.fieldLink RX5 29 "RunmergeOffice$Reader" "wordKind" "I").before args s = true := hts _ (by decide +kernel)
  have hiX5 : ∀ w ∈ u_ws RX5 TX5 13, w ∈ wsX5_readStatement := by decide +kernel
  refine lv_aload_n hx hb dX5_readStatement_0 rfl (lv_at hl 0 rfl) ?_
  refine va_callv (va_runV (As := []) (rest := []) ⟨hx, hb, hml, hown, hts⟩ (c_X5_readWord l dC dI g W t x op to b k0 w0 k1 w1  s.heap.size) (cwV 0 hts gX5_readStatement_X5_readWord rfl rfl rfl (by decide +kernel) ⟨Nat.le_of_ble_eq_true rfl, Nat.le_of_ble_eq_true rfl⟩) ⟨PG_blind, va_recv hK hP (ci := 7) (q0 := k0) rfl w0, PG_call hK hG hS hP hD (A_all hD hA hS.1)⟩ rfl rfl hl.1 rfl (lv_room (Nat.le_of_ble_eq_true rfl)) dX5_readStatement_1 ⟨Nat.le_of_ble_eq_true rfl, Nat.le_of_ble_eq_true rfl⟩) hS (fun q _ h => (A_all hD hA hS.1) q h) (A_all hD hA hS.1) (fun u_1 t_1 H_1 L_1 ht_1 hvm_1 hw_1 hB_1 hz_1 hk_1 hS => ?_)
  replace hB_1 := (show va_P (dC, dI) vwCl W t_1.heap from hB_1)
  rw [ht_1] at hB_1
  have hP := hB_1
  refine lv_aload_n hx hb dX5_readStatement_4 rfl (lv_at hl 0 rfl) ?_
  refine va_get (D := (dC, dI)) (ci := 7) (v := .int 0) (C := RX5) (T := TX5) (N := 13) hx hb hts hiX5 hown hK hP k0 w0 rfl 3 (by decide) hf29 (fun _ h9 => h9) rfl dX5_readStatement_5 ?_
  refine lv_if_ne (tgt := 13) hx hb dX5_readStatement_8 (by decide) (fun c_2 => absurd (by decide) c_2) (fun c_2 => ?_)
  refine lv_iconst (v := 0) hx hb dX5_readStatement_11 (by decide) ?_
  exact W.zret (v := 0) hx hb hr rfl (fun t ht hW => ⟨⟨0, (), rfl, rfl, by rw [ht]; exact hP⟩, hS.F ht⟩) hS.2.2 dX5_readStatement_12
