set_option maxHeartbeats 4000000 in
set_option maxRecDepth 100000 in
theorem c_X11_carryOutText (l : Launch) (dC : Nat → ClassId) (dI : Nat → Nat → Nat) (g : Nat → ClassId) (a : Nat → Nat) (sz : Nat) : Met l yX11_carryOutText wsX11_carryOutText ({ frames := 3, cells := 0, slots := 0, locals := 62 }) (va_Pc [.ref (a 0)] (PG (dC, dI) g (offW a g) sz)) (va_Qi (fun (r : Int32) (_ : Unit) => r = 0) (fun (_ : Unit) t => va_P (dC, dI) vwCl (offW a g) t.heap) (va_A (offW a g) sz)) 0 0 (va_A (offW a g) sz) := by
  refine Met.ofW (cc := cX11_carryOutText) (maxL := 3) (ret := (some .int)) (by decide) rfl ?_
  intro p e s m args below meth c s₁ B hml hv
  obtain ⟨rfl, hsz, hP, hK, hD0, hG⟩ := hv
  have hx := B.exec
  have hb := B.bytes
  have hr := B.returns
  have hts := atoms_spec (ws := wsX11_carryOutText) B.pre
  have hown : s.vm.findClass RX11 = some m.cls := findClass_of_methodNamed B.named
  have hlocks := B.notSynchronized
  subst hsz
  have hD := hD0.self (sz := s.heap.size)
  generalize hAe : va_A (offW a g) s.heap.size = A at hD hG ⊢
  have hA : ∀ q : Nat, s.heap.size ≤ q → A q := fun q h => by rw [← hAe]; exact Or.inr h
  have hS : va_S A s.heap s.heap [] := va_S.rf
  have hl := lv_entry ([.ref (a 0)]) (n := 3) (Nat.le_of_ble_eq_true rfl)
  rw [lg_entry_eq]
  generalize (lg_sl ([.ref (a 0)]) ++ List.replicate (3 - (lg_sl ([.ref (a 0)])).length) Slot.unset).toArray = ls at hl ⊢
  have hl : lv_has ls 3 [(0, .ref (a 0))] := hl
  have hf71 : (Cond.fieldLink RX11 71 "RunmergeOffice" "reader" "LRunmergeOffice$Reader;").before args s = true := hts _ (by decide +kernel)
  have hiX11 : ∀ w ∈ u_ws RX11 TX11 13, w ∈ wsX11_carryOutText := by decide +kernel
  have hf33 : (Cond.fieldLink RX11 33 "RunmergeOffice" "settings" "LRunmergeOffice$Settings;").before args s = true := hts _ (by decide +kernel)
  have hiX5 : ∀ w ∈ u_ws RX5 TX5 13, w ∈ wsX11_carryOutText := by decide +kernel
  have hf22 : (Cond.fieldLink RX11 22 "RunmergeOffice" "copies" "[LRunmergeOffice$Tape;").before args s = true := hts _ (by decide +kernel)
  have hf18 : (Cond.fieldLink RX11 18 "RunmergeOffice" "tapes" "[LRunmergeOffice$Tape;").before args s = true := hts _ (by decide +kernel)
  refine lv_aload_n hx hb dX11_carryOutText_0 rfl (lv_at hl 0 rfl) ?_
  refine va_get (D := (dC, dI)) (ci := 13) (v := .ref (a 64)) (C := RX11) (T := TX11) (N := 13) hx hb hts hiX11 hown hK hP 0 (o_0 a g) rfl 10 (by decide) hf71 (fun _ h9 => h9) rfl dX11_carryOutText_1 ?_
  refine va_callv (va_runV (As := []) (rest := []) ⟨hx, hb, hml, hown, hts⟩ (c_X5_restart l dC dI g (offW a g) (a 64) (a 65) (a 67) (a 68) 64 (o_64 a g)  s.heap.size) (cwV 0 hts gX11_carryOutText_X5_restart rfl rfl rfl (by decide +kernel) ⟨Nat.le_of_ble_eq_true rfl, Nat.le_of_ble_eq_true rfl⟩) ⟨PG_blind, va_recv hK hP (ci := 7) (q0 := 64) rfl (o_64 a g), PG_call hK hG hS hP hD (A_all hD hA hS.1)⟩ rfl rfl hl.1 rfl (lv_room (Nat.le_of_ble_eq_true rfl)) dX11_carryOutText_4 ⟨Nat.le_of_ble_eq_true rfl, Nat.le_of_ble_eq_true rfl⟩) hS (fun q _ h => (A_all hD hA hS.1) q h) (A_all hD hA hS.1) (fun u_1 t_1 H_1 L_1 ht_1 hvm_1 hw_1 hB_1 hz_1 hk_1 hS => ?_)
  replace hB_1 := (show va_P (dC, dI) vwCl (offW a g) t_1.heap from hB_1)
  rw [ht_1] at hB_1
  have hP := hB_1
  refine lv_iconst (v := 1) hx hb dX11_carryOutText_7 (by decide) ?_
  refine lv_istore_n (lv' := [(1, .int 1), (0, .ref (a 0))]) hx hb dX11_carryOutText_8 rfl hl (by decide) rfl (fun ls hl => ?_)
  refine lv_iconst (v := 0) hx hb dX11_carryOutText_9 (by decide) ?_
  refine lv_istore_n (lv' := [(2, .int 0), (1, .int 1), (0, .ref (a 0))]) hx hb dX11_carryOutText_10 rfl hl (by decide) rfl (fun ls hl => ?_)
  refine lv_iload_n hx hb dX11_carryOutText_11 rfl (lv_at hl 0 rfl) ?_
  refine lv_sipush (v := 160) hx hb dX11_carryOutText_12 (by decide) ?_
  refine lv_icmp_gt (tgt := 40) hx hb dX11_carryOutText_15 (by decide) (fun c_2 => absurd c_2 (by decide)) (fun c_2 => ?_)
  refine lv_iload_n hx hb dX11_carryOutText_18 rfl (lv_at hl 1 rfl) ?_
  refine lv_if_eq (tgt := 40) hx hb dX11_carryOutText_19 (by decide) (fun c_3 => absurd c_3 (by decide)) (fun c_3 => ?_)
  refine lv_aload_n hx hb dX11_carryOutText_22 rfl (lv_at hl 2 rfl) ?_
  refine va_get (D := (dC, dI)) (ci := 13) (v := .ref (a 64)) (C := RX11) (T := TX11) (N := 13) hx hb hts hiX11 hown hK hP 0 (o_0 a g) rfl 10 (by decide) hf71 (fun _ h9 => h9) rfl dX11_carryOutText_23 ?_
  refine lv_aload_n hx hb dX11_carryOutText_26 rfl (lv_at hl 2 rfl) ?_
  refine va_get (D := (dC, dI)) (ci := 13) (v := .ref (a 8)) (C := RX11) (T := TX11) (N := 13) hx hb hts hiX11 hown hK hP 0 (o_0 a g) rfl 4 (by decide) hf33 (fun _ h9 => h9) rfl dX11_carryOutText_27 ?_
  refine va_calli (va_runV (As := [.ref (a 8)]) (rest := []) ⟨hx, hb, hml, hown, hts⟩ (c_X5_readStatement l dC dI g (offW a g) (a 64) (a 65) (a 67) (a 68) (a 66) (a 8) 64 (o_64 a g) 65 (o_65 a g)  H_1.size) (cwV 1 hts gX11_carryOutText_X5_readStatement rfl rfl rfl (by decide +kernel) ⟨Nat.le_of_ble_eq_true rfl, Nat.le_of_ble_eq_true rfl⟩) ⟨PG_blind, va_recv hK hP (ci := 7) (q0 := 64) rfl (o_64 a g), PG_call hK hG hS hP hD (A_all hD hA hS.1)⟩ rfl rfl hl.1 rfl (lv_room (Nat.le_of_ble_eq_true rfl)) dX11_carryOutText_30 ⟨Nat.le_of_ble_eq_true rfl, Nat.le_of_ble_eq_true rfl⟩) hS (fun q _ h => (A_all hD hA hS.1) q h) (A_all hD hA hS.1) (fun r_4 u_4 t_4 H_4 L_4 ht_4 hvm_4 hw_4 hB_4 hz_4 hk_4 hS => ?_)
  replace hB_4 := (show va_P (dC, dI) vwCl (offW a g) t_4.heap from hB_4)
  rw [ht_4] at hB_4
  have hP := hB_4
  obtain rfl : r_4 = 0 := hw_4
  refine lv_istore_n (lv' := [(1, .int 0), (2, .int 0), (0, .ref (a 0))]) hx hb dX11_carryOutText_33 rfl hl (by decide) rfl (fun ls hl => ?_)
  refine lv_iinc (v := 1) (lv' := [(2, .int 1), (1, .int 0), (0, .ref (a 0))]) hx hb dX11_carryOutText_34 hl (k := 1) rfl (by decide) (by decide) rfl (fun ls hl => ?_)
  refine lv_goto (tgt := 11) hx hb dX11_carryOutText_37 (by decide) ?_
  refine lv_iload_n hx hb dX11_carryOutText_11 rfl (lv_at hl 0 rfl) ?_
  refine lv_sipush (v := 160) hx hb dX11_carryOutText_12 (by decide) ?_
  refine lv_icmp_gt (tgt := 40) hx hb dX11_carryOutText_15 (by decide) (fun c_5 => absurd c_5 (by decide)) (fun c_5 => ?_)
  refine lv_iload_n hx hb dX11_carryOutText_18 rfl (lv_at hl 1 rfl) ?_
  refine lv_if_eq (tgt := 40) hx hb dX11_carryOutText_19 (by decide) (fun c_6 => ?_) (fun c_6 => absurd (by decide) c_6)
  refine lv_aload_n hx hb dX11_carryOutText_40 rfl (lv_at hl 2 rfl) ?_
  refine va_get (D := (dC, dI)) (ci := 13) (v := .ref (a 64)) (C := RX11) (T := TX11) (N := 13) hx hb hts hiX11 hown hK hP 0 (o_0 a g) rfl 10 (by decide) hf71 (fun _ h9 => h9) rfl dX11_carryOutText_41 ?_
  refine va_getN (D := (dC, dI)) (ci := 7) (v := .int 0) (C := RX5) (T := TX5) (N := 13) hx hb hts hiX5 hown hK hP 64 (o_64 a g) rfl 11 (by decide) (nf_58 hG) (fun _ h9 => h9) rfl dX11_carryOutText_44 ?_
  refine lv_if_eq (tgt := 52) hx hb dX11_carryOutText_47 (by decide) (fun c_7 => ?_) (fun c_7 => absurd (by decide) c_7)
  refine lv_iconst (v := 0) hx hb dX11_carryOutText_52 (by decide) ?_
  refine lv_istore_n (lv' := [(2, .int 0), (1, .int 0), (0, .ref (a 0))]) hx hb dX11_carryOutText_53 rfl hl (by decide) rfl (fun ls hl => ?_)
  refine lv_iload_n hx hb dX11_carryOutText_54 rfl (lv_at hl 0 rfl) ?_
  refine lv_bipush (v := 8) hx hb dX11_carryOutText_55 (by decide) ?_
  refine lv_icmp_ge (tgt := 81) hx hb dX11_carryOutText_57 (by decide) (fun c_8 => absurd c_8 (by decide)) (fun c_8 => ?_)
  refine lv_aload_n hx hb dX11_carryOutText_60 rfl (lv_at hl 2 rfl) ?_
  refine va_get (D := (dC, dI)) (ci := 13) (v := .ref (a 5)) (C := RX11) (T := TX11) (N := 13) hx hb hts hiX11 hown hK hP 0 (o_0 a g) rfl 2 (by decide) hf22 (fun _ h9 => h9) rfl dX11_carryOutText_61 ?_
  refine lv_iload_n hx hb dX11_carryOutText_64 rfl (lv_at hl 0 rfl) ?_
  refine va_aldq hx hb hK hP 5 1 (o_5 a g) rfl (by unfold vp_in; decide) dX11_carryOutText_65 ?_
  refine lv_aload_n hx hb dX11_carryOutText_66 rfl (lv_at hl 2 rfl) ?_
  refine va_get (D := (dC, dI)) (ci := 13) (v := .ref (a 4)) (C := RX11) (T := TX11) (N := 13) hx hb hts hiX11 hown hK hP 0 (o_0 a g) rfl 1 (by decide) hf18 (fun _ h9 => h9) rfl dX11_carryOutText_67 ?_
  refine lv_iload_n hx hb dX11_carryOutText_70 rfl (lv_at hl 0 rfl) ?_
  refine va_aldq hx hb hK hP 4 1 (o_4 a g) rfl (by unfold vp_in; decide) dX11_carryOutText_71 ?_
  refine va_callv (va_runV (As := [.ref (a 108)]) (rest := []) ⟨hx, hb, hml, hown, hts⟩ (c_X9_takeOver l dC dI g (offW a g) (a 124) (a 132) (a 108) (a 116) 124 (o_124 a g) 108 (o_108 a g)  H_4.size) (cwV 1 hts gX11_carryOutText_X9_takeOver rfl rfl rfl (by decide +kernel) ⟨Nat.le_of_ble_eq_true rfl, Nat.le_of_ble_eq_true rfl⟩) ⟨PG_blind, va_recv hK hP (ci := 11) (q0 := 124) rfl (o_124 a g), PG_call hK hG hS hP hD (A_all hD hA hS.1)⟩ rfl rfl hl.1 rfl (lv_room (Nat.le_of_ble_eq_true rfl)) dX11_carryOutText_72 ⟨Nat.le_of_ble_eq_true rfl, Nat.le_of_ble_eq_true rfl⟩) hS (fun q _ h => (A_all hD hA hS.1) q h) (A_all hD hA hS.1) (fun u_9 t_9 H_9 L_9 ht_9 hvm_9 hw_9 hB_9 hz_9 hk_9 hS => ?_)
  replace hB_9 := (show va_P (dC, dI) vwCl (offW a g) t_9.heap from hB_9)
  rw [ht_9] at hB_9
  have hP := hB_9
  refine lv_iinc (v := 1) (lv' := [(2, .int 1), (1, .int 0), (0, .ref (a 0))]) hx hb dX11_carryOutText_75 hl (k := 0) rfl (by decide) (by decide) rfl (fun ls hl => ?_)
  refine lv_goto (tgt := 54) hx hb dX11_carryOutText_78 (by decide) ?_
  refine lv_iload_n hx hb dX11_carryOutText_54 rfl (lv_at hl 0 rfl) ?_
  refine lv_bipush (v := 8) hx hb dX11_carryOutText_55 (by decide) ?_
  refine lv_icmp_ge (tgt := 81) hx hb dX11_carryOutText_57 (by decide) (fun c_10 => absurd c_10 (by decide)) (fun c_10 => ?_)
  refine lv_aload_n hx hb dX11_carryOutText_60 rfl (lv_at hl 2 rfl) ?_
  refine va_get (D := (dC, dI)) (ci := 13) (v := .ref (a 5)) (C := RX11) (T := TX11) (N := 13) hx hb hts hiX11 hown hK hP 0 (o_0 a g) rfl 2 (by decide) hf22 (fun _ h9 => h9) rfl dX11_carryOutText_61 ?_
  refine lv_iload_n hx hb dX11_carryOutText_64 rfl (lv_at hl 0 rfl) ?_
  refine va_aldq hx hb hK hP 5 1 (o_5 a g) rfl (by unfold vp_in; decide) dX11_carryOutText_65 ?_
  refine lv_aload_n hx hb dX11_carryOutText_66 rfl (lv_at hl 2 rfl) ?_
  refine va_get (D := (dC, dI)) (ci := 13) (v := .ref (a 4)) (C := RX11) (T := TX11) (N := 13) hx hb hts hiX11 hown hK hP 0 (o_0 a g) rfl 1 (by decide) hf18 (fun _ h9 => h9) rfl dX11_carryOutText_67 ?_
  refine lv_iload_n hx hb dX11_carryOutText_70 rfl (lv_at hl 0 rfl) ?_
  refine va_aldq hx hb hK hP 4 1 (o_4 a g) rfl (by unfold vp_in; decide) dX11_carryOutText_71 ?_
  refine va_callv (va_runV (As := [.ref (a 109)]) (rest := []) ⟨hx, hb, hml, hown, hts⟩ (c_X9_takeOver l dC dI g (offW a g) (a 125) (a 133) (a 109) (a 117) 125 (o_125 a g) 109 (o_109 a g)  H_9.size) (cwV 1 hts gX11_carryOutText_X9_takeOver rfl rfl rfl (by decide +kernel) ⟨Nat.le_of_ble_eq_true rfl, Nat.le_of_ble_eq_true rfl⟩) ⟨PG_blind, va_recv hK hP (ci := 11) (q0 := 125) rfl (o_125 a g), PG_call hK hG hS hP hD (A_all hD hA hS.1)⟩ rfl rfl hl.1 rfl (lv_room (Nat.le_of_ble_eq_true rfl)) dX11_carryOutText_72 ⟨Nat.le_of_ble_eq_true rfl, Nat.le_of_ble_eq_true rfl⟩) hS (fun q _ h => (A_all hD hA hS.1) q h) (A_all hD hA hS.1) (fun u_11 t_11 H_11 L_11 ht_11 hvm_11 hw_11 hB_11 hz_11 hk_11 hS => ?_)
  replace hB_11 := (show va_P (dC, dI) vwCl (offW a g) t_11.heap from hB_11)
  rw [ht_11] at hB_11
  have hP := hB_11
  refine lv_iinc (v := 2) (lv' := [(2, .int 2), (1, .int 0), (0, .ref (a 0))]) hx hb dX11_carryOutText_75 hl (k := 0) rfl (by decide) (by decide) rfl (fun ls hl => ?_)
  refine lv_goto (tgt := 54) hx hb dX11_carryOutText_78 (by decide) ?_
  refine lv_iload_n hx hb dX11_carryOutText_54 rfl (lv_at hl 0 rfl) ?_
  refine lv_bipush (v := 8) hx hb dX11_carryOutText_55 (by decide) ?_
  refine lv_icmp_ge (tgt := 81) hx hb dX11_carryOutText_57 (by decide) (fun c_12 => absurd c_12 (by decide)) (fun c_12 => ?_)
  refine lv_aload_n hx hb dX11_carryOutText_60 rfl (lv_at hl 2 rfl) ?_
  refine va_get (D := (dC, dI)) (ci := 13) (v := .ref (a 5)) (C := RX11) (T := TX11) (N := 13) hx hb hts hiX11 hown hK hP 0 (o_0 a g) rfl 2 (by decide) hf22 (fun _ h9 => h9) rfl dX11_carryOutText_61 ?_
  refine lv_iload_n hx hb dX11_carryOutText_64 rfl (lv_at hl 0 rfl) ?_
  refine va_aldq hx hb hK hP 5 1 (o_5 a g) rfl (by unfold vp_in; decide) dX11_carryOutText_65 ?_
  refine lv_aload_n hx hb dX11_carryOutText_66 rfl (lv_at hl 2 rfl) ?_
  refine va_get (D := (dC, dI)) (ci := 13) (v := .ref (a 4)) (C := RX11) (T := TX11) (N := 13) hx hb hts hiX11 hown hK hP 0 (o_0 a g) rfl 1 (by decide) hf18 (fun _ h9 => h9) rfl dX11_carryOutText_67 ?_
  refine lv_iload_n hx hb dX11_carryOutText_70 rfl (lv_at hl 0 rfl) ?_
  refine va_aldq hx hb hK hP 4 1 (o_4 a g) rfl (by unfold vp_in; decide) dX11_carryOutText_71 ?_
  refine va_callv (va_runV (As := [.ref (a 110)]) (rest := []) ⟨hx, hb, hml, hown, hts⟩ (c_X9_takeOver l dC dI g (offW a g) (a 126) (a 134) (a 110) (a 118) 126 (o_126 a g) 110 (o_110 a g)  H_11.size) (cwV 1 hts gX11_carryOutText_X9_takeOver rfl rfl rfl (by decide +kernel) ⟨Nat.le_of_ble_eq_true rfl, Nat.le_of_ble_eq_true rfl⟩) ⟨PG_blind, va_recv hK hP (ci := 11) (q0 := 126) rfl (o_126 a g), PG_call hK hG hS hP hD (A_all hD hA hS.1)⟩ rfl rfl hl.1 rfl (lv_room (Nat.le_of_ble_eq_true rfl)) dX11_carryOutText_72 ⟨Nat.le_of_ble_eq_true rfl, Nat.le_of_ble_eq_true rfl⟩) hS (fun q _ h => (A_all hD hA hS.1) q h) (A_all hD hA hS.1) (fun u_13 t_13 H_13 L_13 ht_13 hvm_13 hw_13 hB_13 hz_13 hk_13 hS => ?_)
  replace hB_13 := (show va_P (dC, dI) vwCl (offW a g) t_13.heap from hB_13)
  rw [ht_13] at hB_13
  have hP := hB_13
  refine lv_iinc (v := 3) (lv' := [(2, .int 3), (1, .int 0), (0, .ref (a 0))]) hx hb dX11_carryOutText_75 hl (k := 0) rfl (by decide) (by decide) rfl (fun ls hl => ?_)
  refine lv_goto (tgt := 54) hx hb dX11_carryOutText_78 (by decide) ?_
  refine lv_iload_n hx hb dX11_carryOutText_54 rfl (lv_at hl 0 rfl) ?_
  refine lv_bipush (v := 8) hx hb dX11_carryOutText_55 (by decide) ?_
  refine lv_icmp_ge (tgt := 81) hx hb dX11_carryOutText_57 (by decide) (fun c_14 => absurd c_14 (by decide)) (fun c_14 => ?_)
  refine lv_aload_n hx hb dX11_carryOutText_60 rfl (lv_at hl 2 rfl) ?_
  refine va_get (D := (dC, dI)) (ci := 13) (v := .ref (a 5)) (C := RX11) (T := TX11) (N := 13) hx hb hts hiX11 hown hK hP 0 (o_0 a g) rfl 2 (by decide) hf22 (fun _ h9 => h9) rfl dX11_carryOutText_61 ?_
  refine lv_iload_n hx hb dX11_carryOutText_64 rfl (lv_at hl 0 rfl) ?_
  refine va_aldq hx hb hK hP 5 1 (o_5 a g) rfl (by unfold vp_in; decide) dX11_carryOutText_65 ?_
  refine lv_aload_n hx hb dX11_carryOutText_66 rfl (lv_at hl 2 rfl) ?_
  refine va_get (D := (dC, dI)) (ci := 13) (v := .ref (a 4)) (C := RX11) (T := TX11) (N := 13) hx hb hts hiX11 hown hK hP 0 (o_0 a g) rfl 1 (by decide) hf18 (fun _ h9 => h9) rfl dX11_carryOutText_67 ?_
  refine lv_iload_n hx hb dX11_carryOutText_70 rfl (lv_at hl 0 rfl) ?_
  refine va_aldq hx hb hK hP 4 1 (o_4 a g) rfl (by unfold vp_in; decide) dX11_carryOutText_71 ?_
  refine va_callv (va_runV (As := [.ref (a 111)]) (rest := []) ⟨hx, hb, hml, hown, hts⟩ (c_X9_takeOver l dC dI g (offW a g) (a 127) (a 135) (a 111) (a 119) 127 (o_127 a g) 111 (o_111 a g)  H_13.size) (cwV 1 hts gX11_carryOutText_X9_takeOver rfl rfl rfl (by decide +kernel) ⟨Nat.le_of_ble_eq_true rfl, Nat.le_of_ble_eq_true rfl⟩) ⟨PG_blind, va_recv hK hP (ci := 11) (q0 := 127) rfl (o_127 a g), PG_call hK hG hS hP hD (A_all hD hA hS.1)⟩ rfl rfl hl.1 rfl (lv_room (Nat.le_of_ble_eq_true rfl)) dX11_carryOutText_72 ⟨Nat.le_of_ble_eq_true rfl, Nat.le_of_ble_eq_true rfl⟩) hS (fun q _ h => (A_all hD hA hS.1) q h) (A_all hD hA hS.1) (fun u_15 t_15 H_15 L_15 ht_15 hvm_15 hw_15 hB_15 hz_15 hk_15 hS => ?_)
  replace hB_15 := (show va_P (dC, dI) vwCl (offW a g) t_15.heap from hB_15)
  rw [ht_15] at hB_15
  have hP := hB_15
  refine lv_iinc (v := 4) (lv' := [(2, .int 4), (1, .int 0), (0, .ref (a 0))]) hx hb dX11_carryOutText_75 hl (k := 0) rfl (by decide) (by decide) rfl (fun ls hl => ?_)
  refine lv_goto (tgt := 54) hx hb dX11_carryOutText_78 (by decide) ?_
  refine lv_iload_n hx hb dX11_carryOutText_54 rfl (lv_at hl 0 rfl) ?_
  refine lv_bipush (v := 8) hx hb dX11_carryOutText_55 (by decide) ?_
  refine lv_icmp_ge (tgt := 81) hx hb dX11_carryOutText_57 (by decide) (fun c_16 => absurd c_16 (by decide)) (fun c_16 => ?_)
  refine lv_aload_n hx hb dX11_carryOutText_60 rfl (lv_at hl 2 rfl) ?_
  refine va_get (D := (dC, dI)) (ci := 13) (v := .ref (a 5)) (C := RX11) (T := TX11) (N := 13) hx hb hts hiX11 hown hK hP 0 (o_0 a g) rfl 2 (by decide) hf22 (fun _ h9 => h9) rfl dX11_carryOutText_61 ?_
  refine lv_iload_n hx hb dX11_carryOutText_64 rfl (lv_at hl 0 rfl) ?_
  refine va_aldq hx hb hK hP 5 1 (o_5 a g) rfl (by unfold vp_in; decide) dX11_carryOutText_65 ?_
  refine lv_aload_n hx hb dX11_carryOutText_66 rfl (lv_at hl 2 rfl) ?_
  refine va_get (D := (dC, dI)) (ci := 13) (v := .ref (a 4)) (C := RX11) (T := TX11) (N := 13) hx hb hts hiX11 hown hK hP 0 (o_0 a g) rfl 1 (by decide) hf18 (fun _ h9 => h9) rfl dX11_carryOutText_67 ?_
  refine lv_iload_n hx hb dX11_carryOutText_70 rfl (lv_at hl 0 rfl) ?_
  refine va_aldq hx hb hK hP 4 1 (o_4 a g) rfl (by unfold vp_in; decide) dX11_carryOutText_71 ?_
  refine va_callv (va_runV (As := [.ref (a 112)]) (rest := []) ⟨hx, hb, hml, hown, hts⟩ (c_X9_takeOver l dC dI g (offW a g) (a 128) (a 136) (a 112) (a 120) 128 (o_128 a g) 112 (o_112 a g)  H_15.size) (cwV 1 hts gX11_carryOutText_X9_takeOver rfl rfl rfl (by decide +kernel) ⟨Nat.le_of_ble_eq_true rfl, Nat.le_of_ble_eq_true rfl⟩) ⟨PG_blind, va_recv hK hP (ci := 11) (q0 := 128) rfl (o_128 a g), PG_call hK hG hS hP hD (A_all hD hA hS.1)⟩ rfl rfl hl.1 rfl (lv_room (Nat.le_of_ble_eq_true rfl)) dX11_carryOutText_72 ⟨Nat.le_of_ble_eq_true rfl, Nat.le_of_ble_eq_true rfl⟩) hS (fun q _ h => (A_all hD hA hS.1) q h) (A_all hD hA hS.1) (fun u_17 t_17 H_17 L_17 ht_17 hvm_17 hw_17 hB_17 hz_17 hk_17 hS => ?_)
  replace hB_17 := (show va_P (dC, dI) vwCl (offW a g) t_17.heap from hB_17)
  rw [ht_17] at hB_17
  have hP := hB_17
  refine lv_iinc (v := 5) (lv' := [(2, .int 5), (1, .int 0), (0, .ref (a 0))]) hx hb dX11_carryOutText_75 hl (k := 0) rfl (by decide) (by decide) rfl (fun ls hl => ?_)
  refine lv_goto (tgt := 54) hx hb dX11_carryOutText_78 (by decide) ?_
  refine lv_iload_n hx hb dX11_carryOutText_54 rfl (lv_at hl 0 rfl) ?_
  refine lv_bipush (v := 8) hx hb dX11_carryOutText_55 (by decide) ?_
  refine lv_icmp_ge (tgt := 81) hx hb dX11_carryOutText_57 (by decide) (fun c_18 => absurd c_18 (by decide)) (fun c_18 => ?_)
  refine lv_aload_n hx hb dX11_carryOutText_60 rfl (lv_at hl 2 rfl) ?_
  refine va_get (D := (dC, dI)) (ci := 13) (v := .ref (a 5)) (C := RX11) (T := TX11) (N := 13) hx hb hts hiX11 hown hK hP 0 (o_0 a g) rfl 2 (by decide) hf22 (fun _ h9 => h9) rfl dX11_carryOutText_61 ?_
  refine lv_iload_n hx hb dX11_carryOutText_64 rfl (lv_at hl 0 rfl) ?_
  refine va_aldq hx hb hK hP 5 1 (o_5 a g) rfl (by unfold vp_in; decide) dX11_carryOutText_65 ?_
  refine lv_aload_n hx hb dX11_carryOutText_66 rfl (lv_at hl 2 rfl) ?_
  refine va_get (D := (dC, dI)) (ci := 13) (v := .ref (a 4)) (C := RX11) (T := TX11) (N := 13) hx hb hts hiX11 hown hK hP 0 (o_0 a g) rfl 1 (by decide) hf18 (fun _ h9 => h9) rfl dX11_carryOutText_67 ?_
  refine lv_iload_n hx hb dX11_carryOutText_70 rfl (lv_at hl 0 rfl) ?_
  refine va_aldq hx hb hK hP 4 1 (o_4 a g) rfl (by unfold vp_in; decide) dX11_carryOutText_71 ?_
  refine va_callv (va_runV (As := [.ref (a 113)]) (rest := []) ⟨hx, hb, hml, hown, hts⟩ (c_X9_takeOver l dC dI g (offW a g) (a 129) (a 137) (a 113) (a 121) 129 (o_129 a g) 113 (o_113 a g)  H_17.size) (cwV 1 hts gX11_carryOutText_X9_takeOver rfl rfl rfl (by decide +kernel) ⟨Nat.le_of_ble_eq_true rfl, Nat.le_of_ble_eq_true rfl⟩) ⟨PG_blind, va_recv hK hP (ci := 11) (q0 := 129) rfl (o_129 a g), PG_call hK hG hS hP hD (A_all hD hA hS.1)⟩ rfl rfl hl.1 rfl (lv_room (Nat.le_of_ble_eq_true rfl)) dX11_carryOutText_72 ⟨Nat.le_of_ble_eq_true rfl, Nat.le_of_ble_eq_true rfl⟩) hS (fun q _ h => (A_all hD hA hS.1) q h) (A_all hD hA hS.1) (fun u_19 t_19 H_19 L_19 ht_19 hvm_19 hw_19 hB_19 hz_19 hk_19 hS => ?_)
  replace hB_19 := (show va_P (dC, dI) vwCl (offW a g) t_19.heap from hB_19)
  rw [ht_19] at hB_19
  have hP := hB_19
  refine lv_iinc (v := 6) (lv' := [(2, .int 6), (1, .int 0), (0, .ref (a 0))]) hx hb dX11_carryOutText_75 hl (k := 0) rfl (by decide) (by decide) rfl (fun ls hl => ?_)
  refine lv_goto (tgt := 54) hx hb dX11_carryOutText_78 (by decide) ?_
  refine lv_iload_n hx hb dX11_carryOutText_54 rfl (lv_at hl 0 rfl) ?_
  refine lv_bipush (v := 8) hx hb dX11_carryOutText_55 (by decide) ?_
  refine lv_icmp_ge (tgt := 81) hx hb dX11_carryOutText_57 (by decide) (fun c_20 => absurd c_20 (by decide)) (fun c_20 => ?_)
  refine lv_aload_n hx hb dX11_carryOutText_60 rfl (lv_at hl 2 rfl) ?_
  refine va_get (D := (dC, dI)) (ci := 13) (v := .ref (a 5)) (C := RX11) (T := TX11) (N := 13) hx hb hts hiX11 hown hK hP 0 (o_0 a g) rfl 2 (by decide) hf22 (fun _ h9 => h9) rfl dX11_carryOutText_61 ?_
  refine lv_iload_n hx hb dX11_carryOutText_64 rfl (lv_at hl 0 rfl) ?_
  refine va_aldq hx hb hK hP 5 1 (o_5 a g) rfl (by unfold vp_in; decide) dX11_carryOutText_65 ?_
  refine lv_aload_n hx hb dX11_carryOutText_66 rfl (lv_at hl 2 rfl) ?_
  refine va_get (D := (dC, dI)) (ci := 13) (v := .ref (a 4)) (C := RX11) (T := TX11) (N := 13) hx hb hts hiX11 hown hK hP 0 (o_0 a g) rfl 1 (by decide) hf18 (fun _ h9 => h9) rfl dX11_carryOutText_67 ?_
  refine lv_iload_n hx hb dX11_carryOutText_70 rfl (lv_at hl 0 rfl) ?_
  refine va_aldq hx hb hK hP 4 1 (o_4 a g) rfl (by unfold vp_in; decide) dX11_carryOutText_71 ?_
  refine va_callv (va_runV (As := [.ref (a 114)]) (rest := []) ⟨hx, hb, hml, hown, hts⟩ (c_X9_takeOver l dC dI g (offW a g) (a 130) (a 138) (a 114) (a 122) 130 (o_130 a g) 114 (o_114 a g)  H_19.size) (cwV 1 hts gX11_carryOutText_X9_takeOver rfl rfl rfl (by decide +kernel) ⟨Nat.le_of_ble_eq_true rfl, Nat.le_of_ble_eq_true rfl⟩) ⟨PG_blind, va_recv hK hP (ci := 11) (q0 := 130) rfl (o_130 a g), PG_call hK hG hS hP hD (A_all hD hA hS.1)⟩ rfl rfl hl.1 rfl (lv_room (Nat.le_of_ble_eq_true rfl)) dX11_carryOutText_72 ⟨Nat.le_of_ble_eq_true rfl, Nat.le_of_ble_eq_true rfl⟩) hS (fun q _ h => (A_all hD hA hS.1) q h) (A_all hD hA hS.1) (fun u_21 t_21 H_21 L_21 ht_21 hvm_21 hw_21 hB_21 hz_21 hk_21 hS => ?_)
  replace hB_21 := (show va_P (dC, dI) vwCl (offW a g) t_21.heap from hB_21)
  rw [ht_21] at hB_21
  have hP := hB_21
  refine lv_iinc (v := 7) (lv' := [(2, .int 7), (1, .int 0), (0, .ref (a 0))]) hx hb dX11_carryOutText_75 hl (k := 0) rfl (by decide) (by decide) rfl (fun ls hl => ?_)
  refine lv_goto (tgt := 54) hx hb dX11_carryOutText_78 (by decide) ?_
  refine lv_iload_n hx hb dX11_carryOutText_54 rfl (lv_at hl 0 rfl) ?_
  refine lv_bipush (v := 8) hx hb dX11_carryOutText_55 (by decide) ?_
  refine lv_icmp_ge (tgt := 81) hx hb dX11_carryOutText_57 (by decide) (fun c_22 => absurd c_22 (by decide)) (fun c_22 => ?_)
  refine lv_aload_n hx hb dX11_carryOutText_60 rfl (lv_at hl 2 rfl) ?_
  refine va_get (D := (dC, dI)) (ci := 13) (v := .ref (a 5)) (C := RX11) (T := TX11) (N := 13) hx hb hts hiX11 hown hK hP 0 (o_0 a g) rfl 2 (by decide) hf22 (fun _ h9 => h9) rfl dX11_carryOutText_61 ?_
  refine lv_iload_n hx hb dX11_carryOutText_64 rfl (lv_at hl 0 rfl) ?_
  refine va_aldq hx hb hK hP 5 1 (o_5 a g) rfl (by unfold vp_in; decide) dX11_carryOutText_65 ?_
  refine lv_aload_n hx hb dX11_carryOutText_66 rfl (lv_at hl 2 rfl) ?_
  refine va_get (D := (dC, dI)) (ci := 13) (v := .ref (a 4)) (C := RX11) (T := TX11) (N := 13) hx hb hts hiX11 hown hK hP 0 (o_0 a g) rfl 1 (by decide) hf18 (fun _ h9 => h9) rfl dX11_carryOutText_67 ?_
  refine lv_iload_n hx hb dX11_carryOutText_70 rfl (lv_at hl 0 rfl) ?_
  refine va_aldq hx hb hK hP 4 1 (o_4 a g) rfl (by unfold vp_in; decide) dX11_carryOutText_71 ?_
  refine va_callv (va_runV (As := [.ref (a 115)]) (rest := []) ⟨hx, hb, hml, hown, hts⟩ (c_X9_takeOver l dC dI g (offW a g) (a 131) (a 139) (a 115) (a 123) 131 (o_131 a g) 115 (o_115 a g)  H_21.size) (cwV 1 hts gX11_carryOutText_X9_takeOver rfl rfl rfl (by decide +kernel) ⟨Nat.le_of_ble_eq_true rfl, Nat.le_of_ble_eq_true rfl⟩) ⟨PG_blind, va_recv hK hP (ci := 11) (q0 := 131) rfl (o_131 a g), PG_call hK hG hS hP hD (A_all hD hA hS.1)⟩ rfl rfl hl.1 rfl (lv_room (Nat.le_of_ble_eq_true rfl)) dX11_carryOutText_72 ⟨Nat.le_of_ble_eq_true rfl, Nat.le_of_ble_eq_true rfl⟩) hS (fun q _ h => (A_all hD hA hS.1) q h) (A_all hD hA hS.1) (fun u_23 t_23 H_23 L_23 ht_23 hvm_23 hw_23 hB_23 hz_23 hk_23 hS => ?_)
  replace hB_23 := (show va_P (dC, dI) vwCl (offW a g) t_23.heap from hB_23)
  rw [ht_23] at hB_23
  have hP := hB_23
  refine lv_iinc (v := 8) (lv' := [(2, .int 8), (1, .int 0), (0, .ref (a 0))]) hx hb dX11_carryOutText_75 hl (k := 0) rfl (by decide) (by decide) rfl (fun ls hl => ?_)
  refine lv_goto (tgt := 54) hx hb dX11_carryOutText_78 (by decide) ?_
  refine lv_iload_n hx hb dX11_carryOutText_54 rfl (lv_at hl 0 rfl) ?_
  refine lv_bipush (v := 8) hx hb dX11_carryOutText_55 (by decide) ?_
  refine lv_icmp_ge (tgt := 81) hx hb dX11_carryOutText_57 (by decide) (fun c_24 => ?_) (fun c_24 => absurd (by decide) c_24)
  refine lv_aload_n hx hb dX11_carryOutText_81 rfl (lv_at hl 2 rfl) ?_
  refine va_get (D := (dC, dI)) (ci := 13) (v := .ref (a 64)) (C := RX11) (T := TX11) (N := 13) hx hb hts hiX11 hown hK hP 0 (o_0 a g) rfl 10 (by decide) hf71 (fun _ h9 => h9) rfl dX11_carryOutText_82 ?_
  refine va_callv (va_runV (As := []) (rest := []) ⟨hx, hb, hml, hown, hts⟩ (c_X5_restart l dC dI g (offW a g) (a 64) (a 65) (a 67) (a 68) 64 (o_64 a g)  H_23.size) (cwV 0 hts gX11_carryOutText_X5_restart rfl rfl rfl (by decide +kernel) ⟨Nat.le_of_ble_eq_true rfl, Nat.le_of_ble_eq_true rfl⟩) ⟨PG_blind, va_recv hK hP (ci := 7) (q0 := 64) rfl (o_64 a g), PG_call hK hG hS hP hD (A_all hD hA hS.1)⟩ rfl rfl hl.1 rfl (lv_room (Nat.le_of_ble_eq_true rfl)) dX11_carryOutText_85 ⟨Nat.le_of_ble_eq_true rfl, Nat.le_of_ble_eq_true rfl⟩) hS (fun q _ h => (A_all hD hA hS.1) q h) (A_all hD hA hS.1) (fun u_25 t_25 H_25 L_25 ht_25 hvm_25 hw_25 hB_25 hz_25 hk_25 hS => ?_)
  replace hB_25 := (show va_P (dC, dI) vwCl (offW a g) t_25.heap from hB_25)
  rw [ht_25] at hB_25
  have hP := hB_25
  refine lv_iconst (v := 0) hx hb dX11_carryOutText_88 (by decide) ?_
  refine lv_istore_n (lv' := [(2, .int 0), (1, .int 0), (0, .ref (a 0))]) hx hb dX11_carryOutText_89 rfl hl (by decide) rfl (fun ls hl => ?_)
  refine lv_iload_n hx hb dX11_carryOutText_90 rfl (lv_at hl 0 rfl) ?_
  refine lv_sipush (v := 160) hx hb dX11_carryOutText_91 (by decide) ?_
  refine lv_icmp_gt (tgt := 148) hx hb dX11_carryOutText_94 (by decide) (fun c_26 => absurd c_26 (by decide)) (fun c_26 => ?_)
  refine lv_aload_n hx hb dX11_carryOutText_97 rfl (lv_at hl 2 rfl) ?_
  refine va_get (D := (dC, dI)) (ci := 13) (v := .ref (a 64)) (C := RX11) (T := TX11) (N := 13) hx hb hts hiX11 hown hK hP 0 (o_0 a g) rfl 10 (by decide) hf71 (fun _ h9 => h9) rfl dX11_carryOutText_98 ?_
  refine lv_aload_n hx hb dX11_carryOutText_101 rfl (lv_at hl 2 rfl) ?_
  refine va_get (D := (dC, dI)) (ci := 13) (v := .ref (a 8)) (C := RX11) (T := TX11) (N := 13) hx hb hts hiX11 hown hK hP 0 (o_0 a g) rfl 4 (by decide) hf33 (fun _ h9 => h9) rfl dX11_carryOutText_102 ?_
  refine va_calli (va_runV (As := [.ref (a 8)]) (rest := []) ⟨hx, hb, hml, hown, hts⟩ (c_X5_readStatement l dC dI g (offW a g) (a 64) (a 65) (a 67) (a 68) (a 66) (a 8) 64 (o_64 a g) 65 (o_65 a g)  H_25.size) (cwV 1 hts gX11_carryOutText_X5_readStatement rfl rfl rfl (by decide +kernel) ⟨Nat.le_of_ble_eq_true rfl, Nat.le_of_ble_eq_true rfl⟩) ⟨PG_blind, va_recv hK hP (ci := 7) (q0 := 64) rfl (o_64 a g), PG_call hK hG hS hP hD (A_all hD hA hS.1)⟩ rfl rfl hl.1 rfl (lv_room (Nat.le_of_ble_eq_true rfl)) dX11_carryOutText_105 ⟨Nat.le_of_ble_eq_true rfl, Nat.le_of_ble_eq_true rfl⟩) hS (fun q _ h => (A_all hD hA hS.1) q h) (A_all hD hA hS.1) (fun r_27 u_27 t_27 H_27 L_27 ht_27 hvm_27 hw_27 hB_27 hz_27 hk_27 hS => ?_)
  replace hB_27 := (show va_P (dC, dI) vwCl (offW a g) t_27.heap from hB_27)
  rw [ht_27] at hB_27
  have hP := hB_27
  obtain rfl : r_27 = 0 := hw_27
  refine lv_if_eq (tgt := 148) hx hb dX11_carryOutText_108 (by decide) (fun c_28 => ?_) (fun c_28 => absurd (by decide) c_28)
  refine lv_iload_n hx hb dX11_carryOutText_148 rfl (lv_at hl 0 rfl) ?_
  exact W.iret (v := 0) hx hb hr (fun t ht hW => ⟨⟨0, (), rfl, rfl, by rw [ht]; exact hP⟩, hS.F ht⟩) hS.2.2 dX11_carryOutText_149
set_option maxHeartbeats 4000000 in
set_option maxRecDepth 100000 in
theorem c_X11_errorKind (l : Launch) (dC : Nat → ClassId) (dI : Nat → Nat → Nat) (g : Nat → ClassId) (a : Nat → Nat) (sz : Nat) : Met l yX11_errorKind wsX11_errorKind ({ frames := 4, cells := 0, slots := 0, locals := 84 }) (va_Pc [.ref (a 0)] (PG (dC, dI) g (offW a g) sz)) (va_Qi (fun (r : Int32) (_ : Unit) => r = 0) (fun (_ : Unit) (_ : State) => True) (va_A (offW a g) sz)) 0 0 (va_A (offW a g) sz) := by
  refine Met.ofW (cc := cX11_errorKind) (maxL := 1) (ret := (some .int)) (by decide) rfl ?_
  intro p e s m args below meth c s₁ B hml hv
  obtain ⟨rfl, hsz, hP, hK, hD0, hG⟩ := hv
  have hx := B.exec
  have hb := B.bytes
  have hr := B.returns
  have hts := atoms_spec (ws := wsX11_errorKind) B.pre
  have hown : s.vm.findClass RX11 = some m.cls := findClass_of_methodNamed B.named
  have hlocks := B.notSynchronized
  subst hsz
  have hD := hD0.self (sz := s.heap.size)
  generalize hAe : va_A (offW a g) s.heap.size = A at hD hG ⊢
  have hA : ∀ q : Nat, s.heap.size ≤ q → A q := fun q h => by rw [← hAe]; exact Or.inr h
  have hS : va_S A s.heap s.heap [] := va_S.rf
  have hl := lv_entry ([.ref (a 0)]) (n := 1) (Nat.le_of_ble_eq_true rfl)
  rw [lg_entry_eq]
  generalize (lg_sl ([.ref (a 0)]) ++ List.replicate (1 - (lg_sl ([.ref (a 0)])).length) Slot.unset).toArray = ls at hl ⊢
  have hl : lv_has ls 1 [(0, .ref (a 0))] := hl
  have hf71 : (Cond.fieldLink RX11 71 "RunmergeOffice" "reader" "LRunmergeOffice$Reader;").before args s = true := hts _ (by decide +kernel)
  have hiX11 : ∀ w ∈ u_ws RX11 TX11 13, w ∈ wsX11_errorKind := by decide +kernel
  have hiX5 : ∀ w ∈ u_ws RX5 TX5 13, w ∈ wsX11_errorKind := by decide +kernel
  refine lv_aload_n hx hb dX11_errorKind_0 rfl (lv_at hl 0 rfl) ?_
  refine va_calli (va_runV (As := []) (rest := []) ⟨hx, hb, hml, hown, hts⟩ (c_X11_carryOutText l dC dI g a  s.heap.size) (cwV 0 hts gX11_errorKind_X11_carryOutText rfl rfl rfl (by decide +kernel) ⟨Nat.le_of_ble_eq_true rfl, Nat.le_of_ble_eq_true rfl⟩) ⟨PG_blind, va_recv hK hP (ci := 13) (q0 := 0) rfl (o_0 a g), PG_call hK hG hS hP hD (A_all hD hA hS.1)⟩ rfl rfl hl.1 rfl (lv_room (Nat.le_of_ble_eq_true rfl)) dX11_errorKind_1 ⟨Nat.le_of_ble_eq_true rfl, Nat.le_of_ble_eq_true rfl⟩) hS (fun q _ h => (A_all hD hA hS.1) q h) (A_all hD hA hS.1) (fun r_1 u_1 t_1 H_1 L_1 ht_1 hvm_1 hw_1 hB_1 hz_1 hk_1 hS => ?_)
  replace hB_1 := (show va_P (dC, dI) vwCl (offW a g) t_1.heap from hB_1)
  rw [ht_1] at hB_1
  have hP := hB_1
  obtain rfl : r_1 = 0 := hw_1
  refine lv_pop hx hb dX11_errorKind_4 rfl ?_
  refine lv_aload_n hx hb dX11_errorKind_5 rfl (lv_at hl 0 rfl) ?_
  refine va_get (D := (dC, dI)) (ci := 13) (v := .ref (a 64)) (C := RX11) (T := TX11) (N := 13) hx hb hts hiX11 hown hK hP 0 (o_0 a g) rfl 10 (by decide) hf71 (fun _ h9 => h9) rfl dX11_errorKind_6 ?_
  refine va_getN (D := (dC, dI)) (ci := 7) (v := .int 0) (C := RX5) (T := TX5) (N := 13) hx hb hts hiX5 hown hK hP 64 (o_64 a g) rfl 11 (by decide) (nf_58 hG) (fun _ h9 => h9) rfl dX11_errorKind_9 ?_
  exact W.iret (v := 0) hx hb hr (fun t ht hW => ⟨⟨0, (), rfl, rfl, trivial⟩, hS.F ht⟩) hS.2.2 dX11_errorKind_12
set_option maxHeartbeats 4000000 in
set_option maxRecDepth 100000 in
theorem c_X11_errorPlace (l : Launch) (dC : Nat → ClassId) (dI : Nat → Nat → Nat) (g : Nat → ClassId) (a : Nat → Nat) (sz : Nat) : Met l yX11_errorPlace wsX11_errorPlace ({ frames := 4, cells := 0, slots := 0, locals := 84 }) (va_Pc [.ref (a 0)] (PG (dC, dI) g (offW a g) sz)) (va_Qi (fun (r : Int32) (_ : Unit) => r = -1) (fun (_ : Unit) (_ : State) => True) (va_A (offW a g) sz)) 0 0 (va_A (offW a g) sz) := by
  refine Met.ofW (cc := cX11_errorPlace) (maxL := 1) (ret := (some .int)) (by decide) rfl ?_
  intro p e s m args below meth c s₁ B hml hv
  obtain ⟨rfl, hsz, hP, hK, hD0, hG⟩ := hv
  have hx := B.exec
  have hb := B.bytes
  have hr := B.returns
  have hts := atoms_spec (ws := wsX11_errorPlace) B.pre
  have hown : s.vm.findClass RX11 = some m.cls := findClass_of_methodNamed B.named
  have hlocks := B.notSynchronized
  subst hsz
  have hD := hD0.self (sz := s.heap.size)
  generalize hAe : va_A (offW a g) s.heap.size = A at hD hG ⊢
  have hA : ∀ q : Nat, s.heap.size ≤ q → A q := fun q h => by rw [← hAe]; exact Or.inr h
  have hS : va_S A s.heap s.heap [] := va_S.rf
  have hl := lv_entry ([.ref (a 0)]) (n := 1) (Nat.le_of_ble_eq_true rfl)
  rw [lg_entry_eq]
  generalize (lg_sl ([.ref (a 0)]) ++ List.replicate (1 - (lg_sl ([.ref (a 0)])).length) Slot.unset).toArray = ls at hl ⊢
  have hl : lv_has ls 1 [(0, .ref (a 0))] := hl
  have hf71 : (Cond.fieldLink RX11 71 "RunmergeOffice" "reader" "LRunmergeOffice$Reader;").before args s = true := hts _ (by decide +kernel)
  have hiX11 : ∀ w ∈ u_ws RX11 TX11 13, w ∈ wsX11_errorPlace := by decide +kernel
  have hiX5 : ∀ w ∈ u_ws RX5 TX5 13, w ∈ wsX11_errorPlace := by decide +kernel
  refine lv_aload_n hx hb dX11_errorPlace_0 rfl (lv_at hl 0 rfl) ?_
  refine va_calli (va_runV (As := []) (rest := []) ⟨hx, hb, hml, hown, hts⟩ (c_X11_carryOutText l dC dI g a  s.heap.size) (cwV 0 hts gX11_errorPlace_X11_carryOutText rfl rfl rfl (by decide +kernel) ⟨Nat.le_of_ble_eq_true rfl, Nat.le_of_ble_eq_true rfl⟩) ⟨PG_blind, va_recv hK hP (ci := 13) (q0 := 0) rfl (o_0 a g), PG_call hK hG hS hP hD (A_all hD hA hS.1)⟩ rfl rfl hl.1 rfl (lv_room (Nat.le_of_ble_eq_true rfl)) dX11_errorPlace_1 ⟨Nat.le_of_ble_eq_true rfl, Nat.le_of_ble_eq_true rfl⟩) hS (fun q _ h => (A_all hD hA hS.1) q h) (A_all hD hA hS.1) (fun r_1 u_1 t_1 H_1 L_1 ht_1 hvm_1 hw_1 hB_1 hz_1 hk_1 hS => ?_)
  replace hB_1 := (show va_P (dC, dI) vwCl (offW a g) t_1.heap from hB_1)
  rw [ht_1] at hB_1
  have hP := hB_1
  obtain rfl : r_1 = 0 := hw_1
  refine lv_pop hx hb dX11_errorPlace_4 rfl ?_
  refine lv_aload_n hx hb dX11_errorPlace_5 rfl (lv_at hl 0 rfl) ?_
  refine va_get (D := (dC, dI)) (ci := 13) (v := .ref (a 64)) (C := RX11) (T := TX11) (N := 13) hx hb hts hiX11 hown hK hP 0 (o_0 a g) rfl 10 (by decide) hf71 (fun _ h9 => h9) rfl dX11_errorPlace_6 ?_
  refine va_getN (D := (dC, dI)) (ci := 7) (v := .int (-1)) (C := RX5) (T := TX5) (N := 13) hx hb hts hiX5 hown hK hP 64 (o_64 a g) rfl 12 (by decide) (nf_59 hG) (fun _ h9 => h9) rfl dX11_errorPlace_9 ?_
  exact W.iret (v := (-1)) hx hb hr (fun t ht hW => ⟨⟨(-1), (), rfl, rfl, trivial⟩, hS.F ht⟩) hS.2.2 dX11_errorPlace_12
set_option maxHeartbeats 4000000 in
set_option maxRecDepth 100000 in
theorem c_X11_run (l : Launch) (dC : Nat → ClassId) (dI : Nat → Nat → Nat) (g : Nat → ClassId) (a : Nat → Nat) (sz : Nat) : Met l yX11_run wsX11_run ({ frames := 4, cells := 0, slots := 0, locals := 84 }) (va_Pc [.ref (a 0)] (PG (dC, dI) g (offW a g) sz)) (va_Qi (fun (r : Int32) (_ : Unit) => r = 0) (fun (_ : Unit) (_ : State) => True) (va_A (offW a g) sz)) 0 0 (va_A (offW a g) sz) := by
  refine Met.ofW (cc := cX11_run) (maxL := 3) (ret := (some .int)) (by decide) rfl ?_
  intro p e s m args below meth c s₁ B hml hv
  obtain ⟨rfl, hsz, hP, hK, hD0, hG⟩ := hv
  have hx := B.exec
  have hb := B.bytes
  have hr := B.returns
  have hts := atoms_spec (ws := wsX11_run) B.pre
  have hown : s.vm.findClass RX11 = some m.cls := findClass_of_methodNamed B.named
  have hlocks := B.notSynchronized
  subst hsz
  have hD := hD0.self (sz := s.heap.size)
  generalize hAe : va_A (offW a g) s.heap.size = A at hD hG ⊢
  have hA : ∀ q : Nat, s.heap.size ≤ q → A q := fun q h => by rw [← hAe]; exact Or.inr h
  have hS : va_S A s.heap s.heap [] := va_S.rf
  have hl := lv_entry ([.ref (a 0)]) (n := 3) (Nat.le_of_ble_eq_true rfl)
  rw [lg_entry_eq]
  generalize (lg_sl ([.ref (a 0)]) ++ List.replicate (3 - (lg_sl ([.ref (a 0)])).length) Slot.unset).toArray = ls at hl ⊢
  have hl : lv_has ls 3 [(0, .ref (a 0))] := hl
  have hf71 : (Cond.fieldLink RX11 71 "RunmergeOffice" "reader" "LRunmergeOffice$Reader;").before args s = true := hts _ (by decide +kernel)
  have hiX11 : ∀ w ∈ u_ws RX11 TX11 13, w ∈ wsX11_run := by decide +kernel
  have hiX5 : ∀ w ∈ u_ws RX5 TX5 13, w ∈ wsX11_run := by decide +kernel
  have hf18 : (Cond.fieldLink RX11 18 "RunmergeOffice" "tapes" "[LRunmergeOffice$Tape;").before args s = true := hts _ (by decide +kernel)
  have hf22 : (Cond.fieldLink RX11 22 "RunmergeOffice" "copies" "[LRunmergeOffice$Tape;").before args s = true := hts _ (by decide +kernel)
  refine lv_aload_n hx hb dX11_run_0 rfl (lv_at hl 0 rfl) ?_
  refine va_calli (va_runV (As := []) (rest := []) ⟨hx, hb, hml, hown, hts⟩ (c_X11_carryOutText l dC dI g a  s.heap.size) (cwV 0 hts gX11_run_X11_carryOutText rfl rfl rfl (by decide +kernel) ⟨Nat.le_of_ble_eq_true rfl, Nat.le_of_ble_eq_true rfl⟩) ⟨PG_blind, va_recv hK hP (ci := 13) (q0 := 0) rfl (o_0 a g), PG_call hK hG hS hP hD (A_all hD hA hS.1)⟩ rfl rfl hl.1 rfl (lv_room (Nat.le_of_ble_eq_true rfl)) dX11_run_1 ⟨Nat.le_of_ble_eq_true rfl, Nat.le_of_ble_eq_true rfl⟩) hS (fun q _ h => (A_all hD hA hS.1) q h) (A_all hD hA hS.1) (fun r_1 u_1 t_1 H_1 L_1 ht_1 hvm_1 hw_1 hB_1 hz_1 hk_1 hS => ?_)
  replace hB_1 := (show va_P (dC, dI) vwCl (offW a g) t_1.heap from hB_1)
  rw [ht_1] at hB_1
  have hP := hB_1
  obtain rfl : r_1 = 0 := hw_1
  refine lv_istore_n (lv' := [(1, .int 0), (0, .ref (a 0))]) hx hb dX11_run_4 rfl hl (by decide) rfl (fun ls hl => ?_)
  refine lv_aload_n hx hb dX11_run_5 rfl (lv_at hl 1 rfl) ?_
  refine va_get (D := (dC, dI)) (ci := 13) (v := .ref (a 64)) (C := RX11) (T := TX11) (N := 13) hx hb hts hiX11 hown hK hP 0 (o_0 a g) rfl 10 (by decide) hf71 (fun _ h9 => h9) rfl dX11_run_6 ?_
  refine va_getN (D := (dC, dI)) (ci := 7) (v := .int 0) (C := RX5) (T := TX5) (N := 13) hx hb hts hiX5 hown hK hP 64 (o_64 a g) rfl 11 (by decide) (nf_58 hG) (fun _ h9 => h9) rfl dX11_run_9 ?_
  refine lv_if_eq (tgt := 26) hx hb dX11_run_12 (by decide) (fun c_2 => ?_) (fun c_2 => absurd (by decide) c_2)
  refine lv_iconst (v := 0) hx hb dX11_run_26 (by decide) ?_
  refine lv_istore_n (lv' := [(2, .int 0), (1, .int 0), (0, .ref (a 0))]) hx hb dX11_run_27 rfl hl (by decide) rfl (fun ls hl => ?_)
  refine lv_iload_n hx hb dX11_run_28 rfl (lv_at hl 0 rfl) ?_
  refine lv_bipush (v := 8) hx hb dX11_run_29 (by decide) ?_
  refine lv_icmp_ge (tgt := 55) hx hb dX11_run_31 (by decide) (fun c_3 => absurd c_3 (by decide)) (fun c_3 => ?_)
  refine lv_aload_n hx hb dX11_run_34 rfl (lv_at hl 2 rfl) ?_
  refine va_get (D := (dC, dI)) (ci := 13) (v := .ref (a 4)) (C := RX11) (T := TX11) (N := 13) hx hb hts hiX11 hown hK hP 0 (o_0 a g) rfl 1 (by decide) hf18 (fun _ h9 => h9) rfl dX11_run_35 ?_
  refine lv_iload_n hx hb dX11_run_38 rfl (lv_at hl 0 rfl) ?_
  refine va_aldq hx hb hK hP 4 1 (o_4 a g) rfl (by unfold vp_in; decide) dX11_run_39 ?_
  refine lv_aload_n hx hb dX11_run_40 rfl (lv_at hl 2 rfl) ?_
  refine va_get (D := (dC, dI)) (ci := 13) (v := .ref (a 5)) (C := RX11) (T := TX11) (N := 13) hx hb hts hiX11 hown hK hP 0 (o_0 a g) rfl 2 (by decide) hf22 (fun _ h9 => h9) rfl dX11_run_41 ?_
  refine lv_iload_n hx hb dX11_run_44 rfl (lv_at hl 0 rfl) ?_
  refine va_aldq hx hb hK hP 5 1 (o_5 a g) rfl (by unfold vp_in; decide) dX11_run_45 ?_
  refine va_callv (va_runV (As := [.ref (a 124)]) (rest := []) ⟨hx, hb, hml, hown, hts⟩ (c_X9_takeOver l dC dI g (offW a g) (a 108) (a 116) (a 124) (a 132) 108 (o_108 a g) 124 (o_124 a g)  H_1.size) (cwV 1 hts gX11_run_X9_takeOver rfl rfl rfl (by decide +kernel) ⟨Nat.le_of_ble_eq_true rfl, Nat.le_of_ble_eq_true rfl⟩) ⟨PG_blind, va_recv hK hP (ci := 11) (q0 := 108) rfl (o_108 a g), PG_call hK hG hS hP hD (A_all hD hA hS.1)⟩ rfl rfl hl.1 rfl (lv_room (Nat.le_of_ble_eq_true rfl)) dX11_run_46 ⟨Nat.le_of_ble_eq_true rfl, Nat.le_of_ble_eq_true rfl⟩) hS (fun q _ h => (A_all hD hA hS.1) q h) (A_all hD hA hS.1) (fun u_4 t_4 H_4 L_4 ht_4 hvm_4 hw_4 hB_4 hz_4 hk_4 hS => ?_)
  replace hB_4 := (show va_P (dC, dI) vwCl (offW a g) t_4.heap from hB_4)
  rw [ht_4] at hB_4
  have hP := hB_4
  refine lv_iinc (v := 1) (lv' := [(2, .int 1), (1, .int 0), (0, .ref (a 0))]) hx hb dX11_run_49 hl (k := 0) rfl (by decide) (by decide) rfl (fun ls hl => ?_)
  refine lv_goto (tgt := 28) hx hb dX11_run_52 (by decide) ?_
  refine lv_iload_n hx hb dX11_run_28 rfl (lv_at hl 0 rfl) ?_
  refine lv_bipush (v := 8) hx hb dX11_run_29 (by decide) ?_
  refine lv_icmp_ge (tgt := 55) hx hb dX11_run_31 (by decide) (fun c_5 => absurd c_5 (by decide)) (fun c_5 => ?_)
  refine lv_aload_n hx hb dX11_run_34 rfl (lv_at hl 2 rfl) ?_
  refine va_get (D := (dC, dI)) (ci := 13) (v := .ref (a 4)) (C := RX11) (T := TX11) (N := 13) hx hb hts hiX11 hown hK hP 0 (o_0 a g) rfl 1 (by decide) hf18 (fun _ h9 => h9) rfl dX11_run_35 ?_
  refine lv_iload_n hx hb dX11_run_38 rfl (lv_at hl 0 rfl) ?_
  refine va_aldq hx hb hK hP 4 1 (o_4 a g) rfl (by unfold vp_in; decide) dX11_run_39 ?_
  refine lv_aload_n hx hb dX11_run_40 rfl (lv_at hl 2 rfl) ?_
  refine va_get (D := (dC, dI)) (ci := 13) (v := .ref (a 5)) (C := RX11) (T := TX11) (N := 13) hx hb hts hiX11 hown hK hP 0 (o_0 a g) rfl 2 (by decide) hf22 (fun _ h9 => h9) rfl dX11_run_41 ?_
  refine lv_iload_n hx hb dX11_run_44 rfl (lv_at hl 0 rfl) ?_
  refine va_aldq hx hb hK hP 5 1 (o_5 a g) rfl (by unfold vp_in; decide) dX11_run_45 ?_
  refine va_callv (va_runV (As := [.ref (a 125)]) (rest := []) ⟨hx, hb, hml, hown, hts⟩ (c_X9_takeOver l dC dI g (offW a g) (a 109) (a 117) (a 125) (a 133) 109 (o_109 a g) 125 (o_125 a g)  H_4.size) (cwV 1 hts gX11_run_X9_takeOver rfl rfl rfl (by decide +kernel) ⟨Nat.le_of_ble_eq_true rfl, Nat.le_of_ble_eq_true rfl⟩) ⟨PG_blind, va_recv hK hP (ci := 11) (q0 := 109) rfl (o_109 a g), PG_call hK hG hS hP hD (A_all hD hA hS.1)⟩ rfl rfl hl.1 rfl (lv_room (Nat.le_of_ble_eq_true rfl)) dX11_run_46 ⟨Nat.le_of_ble_eq_true rfl, Nat.le_of_ble_eq_true rfl⟩) hS (fun q _ h => (A_all hD hA hS.1) q h) (A_all hD hA hS.1) (fun u_6 t_6 H_6 L_6 ht_6 hvm_6 hw_6 hB_6 hz_6 hk_6 hS => ?_)
  replace hB_6 := (show va_P (dC, dI) vwCl (offW a g) t_6.heap from hB_6)
  rw [ht_6] at hB_6
  have hP := hB_6
  refine lv_iinc (v := 2) (lv' := [(2, .int 2), (1, .int 0), (0, .ref (a 0))]) hx hb dX11_run_49 hl (k := 0) rfl (by decide) (by decide) rfl (fun ls hl => ?_)
  refine lv_goto (tgt := 28) hx hb dX11_run_52 (by decide) ?_
  refine lv_iload_n hx hb dX11_run_28 rfl (lv_at hl 0 rfl) ?_
  refine lv_bipush (v := 8) hx hb dX11_run_29 (by decide) ?_
  refine lv_icmp_ge (tgt := 55) hx hb dX11_run_31 (by decide) (fun c_7 => absurd c_7 (by decide)) (fun c_7 => ?_)
  refine lv_aload_n hx hb dX11_run_34 rfl (lv_at hl 2 rfl) ?_
  refine va_get (D := (dC, dI)) (ci := 13) (v := .ref (a 4)) (C := RX11) (T := TX11) (N := 13) hx hb hts hiX11 hown hK hP 0 (o_0 a g) rfl 1 (by decide) hf18 (fun _ h9 => h9) rfl dX11_run_35 ?_
  refine lv_iload_n hx hb dX11_run_38 rfl (lv_at hl 0 rfl) ?_
  refine va_aldq hx hb hK hP 4 1 (o_4 a g) rfl (by unfold vp_in; decide) dX11_run_39 ?_
  refine lv_aload_n hx hb dX11_run_40 rfl (lv_at hl 2 rfl) ?_
  refine va_get (D := (dC, dI)) (ci := 13) (v := .ref (a 5)) (C := RX11) (T := TX11) (N := 13) hx hb hts hiX11 hown hK hP 0 (o_0 a g) rfl 2 (by decide) hf22 (fun _ h9 => h9) rfl dX11_run_41 ?_
  refine lv_iload_n hx hb dX11_run_44 rfl (lv_at hl 0 rfl) ?_
  refine va_aldq hx hb hK hP 5 1 (o_5 a g) rfl (by unfold vp_in; decide) dX11_run_45 ?_
  refine va_callv (va_runV (As := [.ref (a 126)]) (rest := []) ⟨hx, hb, hml, hown, hts⟩ (c_X9_takeOver l dC dI g (offW a g) (a 110) (a 118) (a 126) (a 134) 110 (o_110 a g) 126 (o_126 a g)  H_6.size) (cwV 1 hts gX11_run_X9_takeOver rfl rfl rfl (by decide +kernel) ⟨Nat.le_of_ble_eq_true rfl, Nat.le_of_ble_eq_true rfl⟩) ⟨PG_blind, va_recv hK hP (ci := 11) (q0 := 110) rfl (o_110 a g), PG_call hK hG hS hP hD (A_all hD hA hS.1)⟩ rfl rfl hl.1 rfl (lv_room (Nat.le_of_ble_eq_true rfl)) dX11_run_46 ⟨Nat.le_of_ble_eq_true rfl, Nat.le_of_ble_eq_true rfl⟩) hS (fun q _ h => (A_all hD hA hS.1) q h) (A_all hD hA hS.1) (fun u_8 t_8 H_8 L_8 ht_8 hvm_8 hw_8 hB_8 hz_8 hk_8 hS => ?_)
  replace hB_8 := (show va_P (dC, dI) vwCl (offW a g) t_8.heap from hB_8)
  rw [ht_8] at hB_8
  have hP := hB_8
  refine lv_iinc (v := 3) (lv' := [(2, .int 3), (1, .int 0), (0, .ref (a 0))]) hx hb dX11_run_49 hl (k := 0) rfl (by decide) (by decide) rfl (fun ls hl => ?_)
  refine lv_goto (tgt := 28) hx hb dX11_run_52 (by decide) ?_
  refine lv_iload_n hx hb dX11_run_28 rfl (lv_at hl 0 rfl) ?_
  refine lv_bipush (v := 8) hx hb dX11_run_29 (by decide) ?_
  refine lv_icmp_ge (tgt := 55) hx hb dX11_run_31 (by decide) (fun c_9 => absurd c_9 (by decide)) (fun c_9 => ?_)
  refine lv_aload_n hx hb dX11_run_34 rfl (lv_at hl 2 rfl) ?_
  refine va_get (D := (dC, dI)) (ci := 13) (v := .ref (a 4)) (C := RX11) (T := TX11) (N := 13) hx hb hts hiX11 hown hK hP 0 (o_0 a g) rfl 1 (by decide) hf18 (fun _ h9 => h9) rfl dX11_run_35 ?_
  refine lv_iload_n hx hb dX11_run_38 rfl (lv_at hl 0 rfl) ?_
  refine va_aldq hx hb hK hP 4 1 (o_4 a g) rfl (by unfold vp_in; decide) dX11_run_39 ?_
  refine lv_aload_n hx hb dX11_run_40 rfl (lv_at hl 2 rfl) ?_
  refine va_get (D := (dC, dI)) (ci := 13) (v := .ref (a 5)) (C := RX11) (T := TX11) (N := 13) hx hb hts hiX11 hown hK hP 0 (o_0 a g) rfl 2 (by decide) hf22 (fun _ h9 => h9) rfl dX11_run_41 ?_
  refine lv_iload_n hx hb dX11_run_44 rfl (lv_at hl 0 rfl) ?_
  refine va_aldq hx hb hK hP 5 1 (o_5 a g) rfl (by unfold vp_in; decide) dX11_run_45 ?_
  refine va_callv (va_runV (As := [.ref (a 127)]) (rest := []) ⟨hx, hb, hml, hown, hts⟩ (c_X9_takeOver l dC dI g (offW a g) (a 111) (a 119) (a 127) (a 135) 111 (o_111 a g) 127 (o_127 a g)  H_8.size) (cwV 1 hts gX11_run_X9_takeOver rfl rfl rfl (by decide +kernel) ⟨Nat.le_of_ble_eq_true rfl, Nat.le_of_ble_eq_true rfl⟩) ⟨PG_blind, va_recv hK hP (ci := 11) (q0 := 111) rfl (o_111 a g), PG_call hK hG hS hP hD (A_all hD hA hS.1)⟩ rfl rfl hl.1 rfl (lv_room (Nat.le_of_ble_eq_true rfl)) dX11_run_46 ⟨Nat.le_of_ble_eq_true rfl, Nat.le_of_ble_eq_true rfl⟩) hS (fun q _ h => (A_all hD hA hS.1) q h) (A_all hD hA hS.1) (fun u_10 t_10 H_10 L_10 ht_10 hvm_10 hw_10 hB_10 hz_10 hk_10 hS => ?_)
  replace hB_10 := (show va_P (dC, dI) vwCl (offW a g) t_10.heap from hB_10)
  rw [ht_10] at hB_10
  have hP := hB_10
  refine lv_iinc (v := 4) (lv' := [(2, .int 4), (1, .int 0), (0, .ref (a 0))]) hx hb dX11_run_49 hl (k := 0) rfl (by decide) (by decide) rfl (fun ls hl => ?_)
  refine lv_goto (tgt := 28) hx hb dX11_run_52 (by decide) ?_
  refine lv_iload_n hx hb dX11_run_28 rfl (lv_at hl 0 rfl) ?_
  refine lv_bipush (v := 8) hx hb dX11_run_29 (by decide) ?_
  refine lv_icmp_ge (tgt := 55) hx hb dX11_run_31 (by decide) (fun c_11 => absurd c_11 (by decide)) (fun c_11 => ?_)
  refine lv_aload_n hx hb dX11_run_34 rfl (lv_at hl 2 rfl) ?_
  refine va_get (D := (dC, dI)) (ci := 13) (v := .ref (a 4)) (C := RX11) (T := TX11) (N := 13) hx hb hts hiX11 hown hK hP 0 (o_0 a g) rfl 1 (by decide) hf18 (fun _ h9 => h9) rfl dX11_run_35 ?_
  refine lv_iload_n hx hb dX11_run_38 rfl (lv_at hl 0 rfl) ?_
  refine va_aldq hx hb hK hP 4 1 (o_4 a g) rfl (by unfold vp_in; decide) dX11_run_39 ?_
  refine lv_aload_n hx hb dX11_run_40 rfl (lv_at hl 2 rfl) ?_
  refine va_get (D := (dC, dI)) (ci := 13) (v := .ref (a 5)) (C := RX11) (T := TX11) (N := 13) hx hb hts hiX11 hown hK hP 0 (o_0 a g) rfl 2 (by decide) hf22 (fun _ h9 => h9) rfl dX11_run_41 ?_
  refine lv_iload_n hx hb dX11_run_44 rfl (lv_at hl 0 rfl) ?_
  refine va_aldq hx hb hK hP 5 1 (o_5 a g) rfl (by unfold vp_in; decide) dX11_run_45 ?_
  refine va_callv (va_runV (As := [.ref (a 128)]) (rest := []) ⟨hx, hb, hml, hown, hts⟩ (c_X9_takeOver l dC dI g (offW a g) (a 112) (a 120) (a 128) (a 136) 112 (o_112 a g) 128 (o_128 a g)  H_10.size) (cwV 1 hts gX11_run_X9_takeOver rfl rfl rfl (by decide +kernel) ⟨Nat.le_of_ble_eq_true rfl, Nat.le_of_ble_eq_true rfl⟩) ⟨PG_blind, va_recv hK hP (ci := 11) (q0 := 112) rfl (o_112 a g), PG_call hK hG hS hP hD (A_all hD hA hS.1)⟩ rfl rfl hl.1 rfl (lv_room (Nat.le_of_ble_eq_true rfl)) dX11_run_46 ⟨Nat.le_of_ble_eq_true rfl, Nat.le_of_ble_eq_true rfl⟩) hS (fun q _ h => (A_all hD hA hS.1) q h) (A_all hD hA hS.1) (fun u_12 t_12 H_12 L_12 ht_12 hvm_12 hw_12 hB_12 hz_12 hk_12 hS => ?_)
  replace hB_12 := (show va_P (dC, dI) vwCl (offW a g) t_12.heap from hB_12)
  rw [ht_12] at hB_12
  have hP := hB_12
  refine lv_iinc (v := 5) (lv' := [(2, .int 5), (1, .int 0), (0, .ref (a 0))]) hx hb dX11_run_49 hl (k := 0) rfl (by decide) (by decide) rfl (fun ls hl => ?_)
  refine lv_goto (tgt := 28) hx hb dX11_run_52 (by decide) ?_
  refine lv_iload_n hx hb dX11_run_28 rfl (lv_at hl 0 rfl) ?_
  refine lv_bipush (v := 8) hx hb dX11_run_29 (by decide) ?_
  refine lv_icmp_ge (tgt := 55) hx hb dX11_run_31 (by decide) (fun c_13 => absurd c_13 (by decide)) (fun c_13 => ?_)
  refine lv_aload_n hx hb dX11_run_34 rfl (lv_at hl 2 rfl) ?_
  refine va_get (D := (dC, dI)) (ci := 13) (v := .ref (a 4)) (C := RX11) (T := TX11) (N := 13) hx hb hts hiX11 hown hK hP 0 (o_0 a g) rfl 1 (by decide) hf18 (fun _ h9 => h9) rfl dX11_run_35 ?_
  refine lv_iload_n hx hb dX11_run_38 rfl (lv_at hl 0 rfl) ?_
  refine va_aldq hx hb hK hP 4 1 (o_4 a g) rfl (by unfold vp_in; decide) dX11_run_39 ?_
  refine lv_aload_n hx hb dX11_run_40 rfl (lv_at hl 2 rfl) ?_
  refine va_get (D := (dC, dI)) (ci := 13) (v := .ref (a 5)) (C := RX11) (T := TX11) (N := 13) hx hb hts hiX11 hown hK hP 0 (o_0 a g) rfl 2 (by decide) hf22 (fun _ h9 => h9) rfl dX11_run_41 ?_
  refine lv_iload_n hx hb dX11_run_44 rfl (lv_at hl 0 rfl) ?_
  refine va_aldq hx hb hK hP 5 1 (o_5 a g) rfl (by unfold vp_in; decide) dX11_run_45 ?_
  refine va_callv (va_runV (As := [.ref (a 129)]) (rest := []) ⟨hx, hb, hml, hown, hts⟩ (c_X9_takeOver l dC dI g (offW a g) (a 113) (a 121) (a 129) (a 137) 113 (o_113 a g) 129 (o_129 a g)  H_12.size) (cwV 1 hts gX11_run_X9_takeOver rfl rfl rfl (by decide +kernel) ⟨Nat.le_of_ble_eq_true rfl, Nat.le_of_ble_eq_true rfl⟩) ⟨PG_blind, va_recv hK hP (ci := 11) (q0 := 113) rfl (o_113 a g), PG_call hK hG hS hP hD (A_all hD hA hS.1)⟩ rfl rfl hl.1 rfl (lv_room (Nat.le_of_ble_eq_true rfl)) dX11_run_46 ⟨Nat.le_of_ble_eq_true rfl, Nat.le_of_ble_eq_true rfl⟩) hS (fun q _ h => (A_all hD hA hS.1) q h) (A_all hD hA hS.1) (fun u_14 t_14 H_14 L_14 ht_14 hvm_14 hw_14 hB_14 hz_14 hk_14 hS => ?_)
  replace hB_14 := (show va_P (dC, dI) vwCl (offW a g) t_14.heap from hB_14)
  rw [ht_14] at hB_14
  have hP := hB_14
  refine lv_iinc (v := 6) (lv' := [(2, .int 6), (1, .int 0), (0, .ref (a 0))]) hx hb dX11_run_49 hl (k := 0) rfl (by decide) (by decide) rfl (fun ls hl => ?_)
  refine lv_goto (tgt := 28) hx hb dX11_run_52 (by decide) ?_
  refine lv_iload_n hx hb dX11_run_28 rfl (lv_at hl 0 rfl) ?_
  refine lv_bipush (v := 8) hx hb dX11_run_29 (by decide) ?_
  refine lv_icmp_ge (tgt := 55) hx hb dX11_run_31 (by decide) (fun c_15 => absurd c_15 (by decide)) (fun c_15 => ?_)
  refine lv_aload_n hx hb dX11_run_34 rfl (lv_at hl 2 rfl) ?_
  refine va_get (D := (dC, dI)) (ci := 13) (v := .ref (a 4)) (C := RX11) (T := TX11) (N := 13) hx hb hts hiX11 hown hK hP 0 (o_0 a g) rfl 1 (by decide) hf18 (fun _ h9 => h9) rfl dX11_run_35 ?_
  refine lv_iload_n hx hb dX11_run_38 rfl (lv_at hl 0 rfl) ?_
  refine va_aldq hx hb hK hP 4 1 (o_4 a g) rfl (by unfold vp_in; decide) dX11_run_39 ?_
  refine lv_aload_n hx hb dX11_run_40 rfl (lv_at hl 2 rfl) ?_
  refine va_get (D := (dC, dI)) (ci := 13) (v := .ref (a 5)) (C := RX11) (T := TX11) (N := 13) hx hb hts hiX11 hown hK hP 0 (o_0 a g) rfl 2 (by decide) hf22 (fun _ h9 => h9) rfl dX11_run_41 ?_
  refine lv_iload_n hx hb dX11_run_44 rfl (lv_at hl 0 rfl) ?_
  refine va_aldq hx hb hK hP 5 1 (o_5 a g) rfl (by unfold vp_in; decide) dX11_run_45 ?_
  refine va_callv (va_runV (As := [.ref (a 130)]) (rest := []) ⟨hx, hb, hml, hown, hts⟩ (c_X9_takeOver l dC dI g (offW a g) (a 114) (a 122) (a 130) (a 138) 114 (o_114 a g) 130 (o_130 a g)  H_14.size) (cwV 1 hts gX11_run_X9_takeOver rfl rfl rfl (by decide +kernel) ⟨Nat.le_of_ble_eq_true rfl, Nat.le_of_ble_eq_true rfl⟩) ⟨PG_blind, va_recv hK hP (ci := 11) (q0 := 114) rfl (o_114 a g), PG_call hK hG hS hP hD (A_all hD hA hS.1)⟩ rfl rfl hl.1 rfl (lv_room (Nat.le_of_ble_eq_true rfl)) dX11_run_46 ⟨Nat.le_of_ble_eq_true rfl, Nat.le_of_ble_eq_true rfl⟩) hS (fun q _ h => (A_all hD hA hS.1) q h) (A_all hD hA hS.1) (fun u_16 t_16 H_16 L_16 ht_16 hvm_16 hw_16 hB_16 hz_16 hk_16 hS => ?_)
  replace hB_16 := (show va_P (dC, dI) vwCl (offW a g) t_16.heap from hB_16)
  rw [ht_16] at hB_16
  have hP := hB_16
  refine lv_iinc (v := 7) (lv' := [(2, .int 7), (1, .int 0), (0, .ref (a 0))]) hx hb dX11_run_49 hl (k := 0) rfl (by decide) (by decide) rfl (fun ls hl => ?_)
  refine lv_goto (tgt := 28) hx hb dX11_run_52 (by decide) ?_
  refine lv_iload_n hx hb dX11_run_28 rfl (lv_at hl 0 rfl) ?_
  refine lv_bipush (v := 8) hx hb dX11_run_29 (by decide) ?_
  refine lv_icmp_ge (tgt := 55) hx hb dX11_run_31 (by decide) (fun c_17 => absurd c_17 (by decide)) (fun c_17 => ?_)
  refine lv_aload_n hx hb dX11_run_34 rfl (lv_at hl 2 rfl) ?_
  refine va_get (D := (dC, dI)) (ci := 13) (v := .ref (a 4)) (C := RX11) (T := TX11) (N := 13) hx hb hts hiX11 hown hK hP 0 (o_0 a g) rfl 1 (by decide) hf18 (fun _ h9 => h9) rfl dX11_run_35 ?_
  refine lv_iload_n hx hb dX11_run_38 rfl (lv_at hl 0 rfl) ?_
  refine va_aldq hx hb hK hP 4 1 (o_4 a g) rfl (by unfold vp_in; decide) dX11_run_39 ?_
  refine lv_aload_n hx hb dX11_run_40 rfl (lv_at hl 2 rfl) ?_
  refine va_get (D := (dC, dI)) (ci := 13) (v := .ref (a 5)) (C := RX11) (T := TX11) (N := 13) hx hb hts hiX11 hown hK hP 0 (o_0 a g) rfl 2 (by decide) hf22 (fun _ h9 => h9) rfl dX11_run_41 ?_
  refine lv_iload_n hx hb dX11_run_44 rfl (lv_at hl 0 rfl) ?_
  refine va_aldq hx hb hK hP 5 1 (o_5 a g) rfl (by unfold vp_in; decide) dX11_run_45 ?_
  refine va_callv (va_runV (As := [.ref (a 131)]) (rest := []) ⟨hx, hb, hml, hown, hts⟩ (c_X9_takeOver l dC dI g (offW a g) (a 115) (a 123) (a 131) (a 139) 115 (o_115 a g) 131 (o_131 a g)  H_16.size) (cwV 1 hts gX11_run_X9_takeOver rfl rfl rfl (by decide +kernel) ⟨Nat.le_of_ble_eq_true rfl, Nat.le_of_ble_eq_true rfl⟩) ⟨PG_blind, va_recv hK hP (ci := 11) (q0 := 115) rfl (o_115 a g), PG_call hK hG hS hP hD (A_all hD hA hS.1)⟩ rfl rfl hl.1 rfl (lv_room (Nat.le_of_ble_eq_true rfl)) dX11_run_46 ⟨Nat.le_of_ble_eq_true rfl, Nat.le_of_ble_eq_true rfl⟩) hS (fun q _ h => (A_all hD hA hS.1) q h) (A_all hD hA hS.1) (fun u_18 t_18 H_18 L_18 ht_18 hvm_18 hw_18 hB_18 hz_18 hk_18 hS => ?_)
  replace hB_18 := (show va_P (dC, dI) vwCl (offW a g) t_18.heap from hB_18)
  rw [ht_18] at hB_18
  have hP := hB_18
  refine lv_iinc (v := 8) (lv' := [(2, .int 8), (1, .int 0), (0, .ref (a 0))]) hx hb dX11_run_49 hl (k := 0) rfl (by decide) (by decide) rfl (fun ls hl => ?_)
  refine lv_goto (tgt := 28) hx hb dX11_run_52 (by decide) ?_
  refine lv_iload_n hx hb dX11_run_28 rfl (lv_at hl 0 rfl) ?_
  refine lv_bipush (v := 8) hx hb dX11_run_29 (by decide) ?_
  refine lv_icmp_ge (tgt := 55) hx hb dX11_run_31 (by decide) (fun c_19 => ?_) (fun c_19 => absurd (by decide) c_19)
  refine lv_iload_n hx hb dX11_run_55 rfl (lv_at hl 1 rfl) ?_
  exact W.iret (v := 0) hx hb hr (fun t ht hW => ⟨⟨0, (), rfl, rfl, trivial⟩, hS.F ht⟩) hS.2.2 dX11_run_56
set_option maxHeartbeats 4000000 in
set_option maxRecDepth 100000 in
theorem c_X11_meanKey (l : Launch) (hlf : l.stackTraces = false) (dC : Nat → ClassId) (dI : Nat → Nat → Nat) (g : Nat → ClassId) (a : Nat → Nat) (x : Int32) (sz : Nat) : vx_Met l yX11_meanKey wsX11_meanKey ({ frames := 7, cells := 1, slots := 6, locals := 103 }) (va_Pc [.ref (a 0), .int x] (PG (dC, dI) g (offW a g) sz)) (va_Qd (fun (r : UInt64) (_ : Unit) => (TOKb x) = true ∧ r = FP.dconst0) (fun (_ : Unit) (_ : State) => True) (va_A (offW a g) sz)) (vx_X (fun _ : Unit => True) (fun E _ _ => E = "java/lang/IndexOutOfBoundsException" ∧ (TOKb x) = false) (va_A (offW a g) sz)) 1 6 (va_A (offW a g) sz) := by
  refine vx_ofW (cc := cX11_meanKey) (maxL := 5) (ret := (some .double)) (by decide) rfl ?_
  intro p e s m args below meth c s₁ B hml hno hv
  obtain ⟨rfl, hsz, hP, hK, hD0, hG⟩ := hv
  have hx := B.exec
  have hb := B.bytes
  have hr := B.returns
  have hts := atoms_spec (ws := wsX11_meanKey) B.pre
  have hown : s.vm.findClass RX11 = some m.cls := findClass_of_methodNamed B.named
  have hlocks := B.notSynchronized
  subst hsz
  have hD := hD0.self (sz := s.heap.size)
  generalize hAe : va_A (offW a g) s.heap.size = A at hD hG ⊢
  have hA : ∀ q : Nat, s.heap.size ≤ q → A q := fun q h => by rw [← hAe]; exact Or.inr h
  have hS : va_S A s.heap s.heap [] := va_S.rf
  have hl := lv_entry ([.ref (a 0), .int x]) (n := 5) (Nat.le_of_ble_eq_true rfl)
  rw [lg_entry_eq]
  generalize (lg_sl ([.ref (a 0), .int x]) ++ List.replicate (5 - (lg_sl ([.ref (a 0), .int x])).length) Slot.unset).toArray = ls at hl ⊢
  have hl : lv_has ls 5 [(0, .ref (a 0)), (1, .int x)] := hl
  have hiX9 : ∀ w ∈ u_ws RX9 TX9 2, w ∈ wsX11_meanKey := by decide +kernel
  refine lv_aload_n hx hb dX11_meanKey_0 rfl (lv_at hl 0 rfl) ?_
  refine lv_iload_n hx hb dX11_meanKey_1 rfl (lv_at hl 1 rfl) ?_
  refine vx_callq (vx_runV (As := [.int x]) (rest := []) ⟨hx, hb, hml, hown, hts⟩ (c_X11_tapeOf l hlf dC dI g (offW a g) (a 0) (a 1) (a 4) (a 5) (a 6) (a 8) (a 9) (a 12) (a 16) (a 22) (a 43) (a 64) (a 69) 0 (va_up (va_up (va_up (va_up (va_up (va_up (va_up (va_up (fun _ => none) 0 (some (a 108))) 1 (some (a 109))) 2 (some (a 110))) 3 (some (a 111))) 4 (some (a 112))) 5 (some (a 113))) 6 (some (a 114))) 7 (some (a 115))) (fun j => a (108 + j)) x 0 (o_0 a g) 4 (o_4 a g) (tp_at a) s.heap.size) (cwV 1 hts gX11_meanKey_X11_tapeOf rfl rfl rfl (by decide +kernel) ⟨Nat.le_of_ble_eq_true rfl, Nat.le_of_ble_eq_true rfl⟩) ⟨PG_blind, va_recv hK hP (ci := 13) (q0 := 0) rfl (o_0 a g), PG_call hK hG hS hP hD (A_all hD hA hS.1)⟩ rfl rfl hl.1 rfl (lv_room (Nat.le_of_ble_eq_true rfl)) dX11_meanKey_2 ⟨Nat.le_of_ble_eq_true rfl, Nat.le_of_ble_eq_true rfl⟩) hS (fun q _ h => (A_all hD hA hS.1) q h) (A_all hD hA hS.1) (fun q _ h => (A_all hD hA hS.1) q h) (fun E ce q9 u t H1 locs1 ht hvm hp9 hB9 hz hk hS9 hce hcv hcl => ?_) (fun r_1 u_1 t_1 H_1 L_1 ht_1 hvm_1 hw_1 hB_1 hz_1 hk_1 hS => ?_)
  · exact vx_out (fun x hx => (hno x hx).elim) hlocks hce hcv hcl (fun t ht hW => ⟨(), trivial, (by have h9 : E = "java/lang/IndexOutOfBoundsException" ∧ TOKb x = false := hB9; exact ⟨h9.1, by simp [h9.2]⟩), hS9.F ht⟩) hS9.2.2 (Nat.le_of_ble_eq_true rfl) (Nat.le_of_ble_eq_true rfl)
  replace hB_1 := (show va_P (dC, dI) vwCl (offW a g) t_1.heap from hB_1)
  rw [ht_1] at hB_1
  have hP := hB_1
  obtain ⟨j_1, hj_1, ex_1, rfl⟩ := hw_1
  have w_1 := o_tape a g j_1 hj_1
  refine lv_astore_n (lv' := [(2, .ref (a (108 + j_1))), (0, .ref (a 0)), (1, .int x)]) hx hb dX11_meanKey_5 rfl hl (by decide) rfl (fun ls hl => ?_)
  refine lv_aload_n hx hb dX11_meanKey_6 rfl (lv_at hl 0 rfl) ?_
  refine va_getN (D := (dC, dI)) (ci := 11) (v := .int 0) (C := RX9) (T := TX9) (N := 2) hx hb hts hiX9 hown hK hP (108 + j_1) w_1 rfl 1 (by decide) (nf_3 hG) (fun _ h9 => h9) rfl dX11_meanKey_7 ?_
  refine lv_if_ne (tgt := 15) hx hb dX11_meanKey_10 (by decide) (fun c_2 => absurd (by decide) c_2) (fun c_2 => ?_)
  refine lv_dconst0 hx hb dX11_meanKey_13 ?_
  refine vx_ret ?_
  exact W.dret (v := FP.dconst0) hx hb hr (fun t ht hW => ⟨⟨FP.dconst0, (), rfl, ⟨by simp [TOK_j hj_1 ex_1], rfl⟩, trivial⟩, hS.F ht⟩) hS.2.2 dX11_meanKey_14
set_option maxHeartbeats 4000000 in
set_option maxRecDepth 100000 in
theorem c_X11_sortedShare (l : Launch) (dC : Nat → ClassId) (dI : Nat → Nat → Nat) (g : Nat → ClassId) (a : Nat → Nat) (sz : Nat) : Met l yX11_sortedShare wsX11_sortedShare ({ frames := 1, cells := 0, slots := 0, locals := 23 }) (va_Pc [.ref (a 0)] (PG (dC, dI) g (offW a g) sz)) (va_Qf (fun (r : UInt32) (_ : Unit) => r = FP.fdiv (FP.i2f 8) 1090519040) (fun (_ : Unit) (_ : State) => True) (va_A (offW a g) sz)) 0 0 (va_A (offW a g) sz) := by
  refine Met.ofW (cc := cX11_sortedShare) (maxL := 3) (ret := (some .float)) (by decide) rfl ?_
  intro p e s m args below meth c s₁ B hml hv
  obtain ⟨rfl, hsz, hP, hK, hD0, hG⟩ := hv
  have hx := B.exec
  have hb := B.bytes
  have hr := B.returns
  have hts := atoms_spec (ws := wsX11_sortedShare) B.pre
  have hown : s.vm.findClass RX11 = some m.cls := findClass_of_methodNamed B.named
  have hlocks := B.notSynchronized
  subst hsz
  have hD := hD0.self (sz := s.heap.size)
  generalize hAe : va_A (offW a g) s.heap.size = A at hD hG ⊢
  have hA : ∀ q : Nat, s.heap.size ≤ q → A q := fun q h => by rw [← hAe]; exact Or.inr h
  have hS : va_S A s.heap s.heap [] := va_S.rf
  have hl := lv_entry ([.ref (a 0)]) (n := 3) (Nat.le_of_ble_eq_true rfl)
  rw [lg_entry_eq]
  generalize (lg_sl ([.ref (a 0)]) ++ List.replicate (3 - (lg_sl ([.ref (a 0)])).length) Slot.unset).toArray = ls at hl ⊢
  have hl : lv_has ls 3 [(0, .ref (a 0))] := hl
  have hf18 : (Cond.fieldLink RX11 18 "RunmergeOffice" "tapes" "[LRunmergeOffice$Tape;").before args s = true := hts _ (by decide +kernel)
  have hiX11 : ∀ w ∈ u_ws RX11 TX11 13, w ∈ wsX11_sortedShare := by decide +kernel
  have hf10 : (Cond.fieldLink RX11 10 "RunmergeOffice" "book" "LRunmergeOffice$Book;").before args s = true := hts _ (by decide +kernel)
  have hk340 : (Jvm.Cond.constantFloat RX11 340 1090519040).before args s = true := hts _ (by decide +kernel)
  refine lv_iconst (v := 0) hx hb dX11_sortedShare_0 (by decide) ?_
  refine lv_istore_n (lv' := [(1, .int 0), (0, .ref (a 0))]) hx hb dX11_sortedShare_1 rfl hl (by decide) rfl (fun ls hl => ?_)
  refine lv_iconst (v := 0) hx hb dX11_sortedShare_2 (by decide) ?_
  refine lv_istore_n (lv' := [(2, .int 0), (1, .int 0), (0, .ref (a 0))]) hx hb dX11_sortedShare_3 rfl hl (by decide) rfl (fun ls hl => ?_)
  refine lv_iload_n hx hb dX11_sortedShare_4 rfl (lv_at hl 0 rfl) ?_
  refine lv_bipush (v := 8) hx hb dX11_sortedShare_5 (by decide) ?_
  refine lv_icmp_ge (tgt := 41) hx hb dX11_sortedShare_7 (by decide) (fun c_1 => absurd c_1 (by decide)) (fun c_1 => ?_)
  refine lv_iload_n hx hb dX11_sortedShare_10 rfl (lv_at hl 1 rfl) ?_
  refine lv_aload_n hx hb dX11_sortedShare_11 rfl (lv_at hl 2 rfl) ?_
  refine va_get (D := (dC, dI)) (ci := 13) (v := .ref (a 4)) (C := RX11) (T := TX11) (N := 13) hx hb hts hiX11 hown hK hP 0 (o_0 a g) rfl 1 (by decide) hf18 (fun _ h9 => h9) rfl dX11_sortedShare_12 ?_
  refine lv_iload_n hx hb dX11_sortedShare_15 rfl (lv_at hl 0 rfl) ?_
  refine va_aldq hx hb hK hP 4 1 (o_4 a g) rfl (by unfold vp_in; decide) dX11_sortedShare_16 ?_
  refine lv_aload_n hx hb dX11_sortedShare_17 rfl (lv_at hl 2 rfl) ?_
  refine va_get (D := (dC, dI)) (ci := 13) (v := .ref (a 1)) (C := RX11) (T := TX11) (N := 13) hx hb hts hiX11 hown hK hP 0 (o_0 a g) rfl 0 (by decide) hf10 (fun _ h9 => h9) rfl dX11_sortedShare_18 ?_
  refine lv_iconst (v := 0) hx hb dX11_sortedShare_21 (by decide) ?_
  refine va_calli (va_runV (As := [.ref (a 1), .int 0]) (rest := [.int 0]) ⟨hx, hb, hml, hown, hts⟩ (c_X9_isInOrder l dC dI g (offW a g) (a 108) (a 116) (a 1) 0 108 (o_108 a g)  s.heap.size) (cwV 2 hts gX11_sortedShare_X9_isInOrder rfl rfl rfl (by decide +kernel) ⟨Nat.le_of_ble_eq_true rfl, Nat.le_of_ble_eq_true rfl⟩) ⟨PG_blind, va_recv hK hP (ci := 11) (q0 := 108) rfl (o_108 a g), PG_call hK hG hS hP hD (A_all hD hA hS.1)⟩ rfl rfl hl.1 rfl (lv_room (Nat.le_of_ble_eq_true rfl)) dX11_sortedShare_22 ⟨Nat.le_of_ble_eq_true rfl, Nat.le_of_ble_eq_true rfl⟩) hS (fun q _ h => (A_all hD hA hS.1) q h) (A_all hD hA hS.1) (fun r_2 u_2 t_2 H_2 L_2 ht_2 hvm_2 hw_2 hB_2 hz_2 hk_2 hS => ?_)
  replace hB_2 := (show va_P (dC, dI) vwCl (offW a g) t_2.heap from hB_2)
  rw [ht_2] at hB_2
  have hP := hB_2
  obtain rfl : r_2 = 1 := hw_2
  refine lv_if_eq (tgt := 32) hx hb dX11_sortedShare_25 (by decide) (fun c_3 => absurd c_3 (by decide)) (fun c_3 => ?_)
  refine lv_iconst (v := 1) hx hb dX11_sortedShare_28 (by decide) ?_
  refine lv_goto (tgt := 33) hx hb dX11_sortedShare_29 (by decide) ?_
  refine lv_iadd hx hb dX11_sortedShare_33 ?_
  refine lv_topi (fun x_4 ex_4 => ?_)
  obtain rfl : x_4 = 1 := ex_4.trans (by decide)
  refine lv_istore_n (lv' := [(1, .int 1), (2, .int 0), (0, .ref (a 0))]) hx hb dX11_sortedShare_34 rfl hl (by decide) rfl (fun ls hl => ?_)
  refine lv_iinc (v := 1) (lv' := [(2, .int 1), (1, .int 1), (0, .ref (a 0))]) hx hb dX11_sortedShare_35 hl (k := 1) rfl (by decide) (by decide) rfl (fun ls hl => ?_)
  refine lv_goto (tgt := 4) hx hb dX11_sortedShare_38 (by decide) ?_
  refine lv_iload_n hx hb dX11_sortedShare_4 rfl (lv_at hl 0 rfl) ?_
  refine lv_bipush (v := 8) hx hb dX11_sortedShare_5 (by decide) ?_
  refine lv_icmp_ge (tgt := 41) hx hb dX11_sortedShare_7 (by decide) (fun c_5 => absurd c_5 (by decide)) (fun c_5 => ?_)
  refine lv_iload_n hx hb dX11_sortedShare_10 rfl (lv_at hl 1 rfl) ?_
  refine lv_aload_n hx hb dX11_sortedShare_11 rfl (lv_at hl 2 rfl) ?_
  refine va_get (D := (dC, dI)) (ci := 13) (v := .ref (a 4)) (C := RX11) (T := TX11) (N := 13) hx hb hts hiX11 hown hK hP 0 (o_0 a g) rfl 1 (by decide) hf18 (fun _ h9 => h9) rfl dX11_sortedShare_12 ?_
  refine lv_iload_n hx hb dX11_sortedShare_15 rfl (lv_at hl 0 rfl) ?_
  refine va_aldq hx hb hK hP 4 1 (o_4 a g) rfl (by unfold vp_in; decide) dX11_sortedShare_16 ?_
  refine lv_aload_n hx hb dX11_sortedShare_17 rfl (lv_at hl 2 rfl) ?_
  refine va_get (D := (dC, dI)) (ci := 13) (v := .ref (a 1)) (C := RX11) (T := TX11) (N := 13) hx hb hts hiX11 hown hK hP 0 (o_0 a g) rfl 0 (by decide) hf10 (fun _ h9 => h9) rfl dX11_sortedShare_18 ?_
  refine lv_iconst (v := 0) hx hb dX11_sortedShare_21 (by decide) ?_
  refine va_calli (va_runV (As := [.ref (a 1), .int 0]) (rest := [.int 1]) ⟨hx, hb, hml, hown, hts⟩ (c_X9_isInOrder l dC dI g (offW a g) (a 109) (a 117) (a 1) 0 109 (o_109 a g)  H_2.size) (cwV 2 hts gX11_sortedShare_X9_isInOrder rfl rfl rfl (by decide +kernel) ⟨Nat.le_of_ble_eq_true rfl, Nat.le_of_ble_eq_true rfl⟩) ⟨PG_blind, va_recv hK hP (ci := 11) (q0 := 109) rfl (o_109 a g), PG_call hK hG hS hP hD (A_all hD hA hS.1)⟩ rfl rfl hl.1 rfl (lv_room (Nat.le_of_ble_eq_true rfl)) dX11_sortedShare_22 ⟨Nat.le_of_ble_eq_true rfl, Nat.le_of_ble_eq_true rfl⟩) hS (fun q _ h => (A_all hD hA hS.1) q h) (A_all hD hA hS.1) (fun r_6 u_6 t_6 H_6 L_6 ht_6 hvm_6 hw_6 hB_6 hz_6 hk_6 hS => ?_)
  replace hB_6 := (show va_P (dC, dI) vwCl (offW a g) t_6.heap from hB_6)
  rw [ht_6] at hB_6
  have hP := hB_6
  obtain rfl : r_6 = 1 := hw_6
  refine lv_if_eq (tgt := 32) hx hb dX11_sortedShare_25 (by decide) (fun c_7 => absurd c_7 (by decide)) (fun c_7 => ?_)
  refine lv_iconst (v := 1) hx hb dX11_sortedShare_28 (by decide) ?_
  refine lv_goto (tgt := 33) hx hb dX11_sortedShare_29 (by decide) ?_
  refine lv_iadd hx hb dX11_sortedShare_33 ?_
  refine lv_topi (fun x_8 ex_8 => ?_)
  obtain rfl : x_8 = 2 := ex_8.trans (by decide)
  refine lv_istore_n (lv' := [(1, .int 2), (2, .int 1), (0, .ref (a 0))]) hx hb dX11_sortedShare_34 rfl hl (by decide) rfl (fun ls hl => ?_)
  refine lv_iinc (v := 2) (lv' := [(2, .int 2), (1, .int 2), (0, .ref (a 0))]) hx hb dX11_sortedShare_35 hl (k := 1) rfl (by decide) (by decide) rfl (fun ls hl => ?_)
  refine lv_goto (tgt := 4) hx hb dX11_sortedShare_38 (by decide) ?_
  refine lv_iload_n hx hb dX11_sortedShare_4 rfl (lv_at hl 0 rfl) ?_
  refine lv_bipush (v := 8) hx hb dX11_sortedShare_5 (by decide) ?_
  refine lv_icmp_ge (tgt := 41) hx hb dX11_sortedShare_7 (by decide) (fun c_9 => absurd c_9 (by decide)) (fun c_9 => ?_)
  refine lv_iload_n hx hb dX11_sortedShare_10 rfl (lv_at hl 1 rfl) ?_
  refine lv_aload_n hx hb dX11_sortedShare_11 rfl (lv_at hl 2 rfl) ?_
  refine va_get (D := (dC, dI)) (ci := 13) (v := .ref (a 4)) (C := RX11) (T := TX11) (N := 13) hx hb hts hiX11 hown hK hP 0 (o_0 a g) rfl 1 (by decide) hf18 (fun _ h9 => h9) rfl dX11_sortedShare_12 ?_
  refine lv_iload_n hx hb dX11_sortedShare_15 rfl (lv_at hl 0 rfl) ?_
  refine va_aldq hx hb hK hP 4 1 (o_4 a g) rfl (by unfold vp_in; decide) dX11_sortedShare_16 ?_
  refine lv_aload_n hx hb dX11_sortedShare_17 rfl (lv_at hl 2 rfl) ?_
  refine va_get (D := (dC, dI)) (ci := 13) (v := .ref (a 1)) (C := RX11) (T := TX11) (N := 13) hx hb hts hiX11 hown hK hP 0 (o_0 a g) rfl 0 (by decide) hf10 (fun _ h9 => h9) rfl dX11_sortedShare_18 ?_
  refine lv_iconst (v := 0) hx hb dX11_sortedShare_21 (by decide) ?_
  refine va_calli (va_runV (As := [.ref (a 1), .int 0]) (rest := [.int 2]) ⟨hx, hb, hml, hown, hts⟩ (c_X9_isInOrder l dC dI g (offW a g) (a 110) (a 118) (a 1) 0 110 (o_110 a g)  H_6.size) (cwV 2 hts gX11_sortedShare_X9_isInOrder rfl rfl rfl (by decide +kernel) ⟨Nat.le_of_ble_eq_true rfl, Nat.le_of_ble_eq_true rfl⟩) ⟨PG_blind, va_recv hK hP (ci := 11) (q0 := 110) rfl (o_110 a g), PG_call hK hG hS hP hD (A_all hD hA hS.1)⟩ rfl rfl hl.1 rfl (lv_room (Nat.le_of_ble_eq_true rfl)) dX11_sortedShare_22 ⟨Nat.le_of_ble_eq_true rfl, Nat.le_of_ble_eq_true rfl⟩) hS (fun q _ h => (A_all hD hA hS.1) q h) (A_all hD hA hS.1) (fun r_10 u_10 t_10 H_10 L_10 ht_10 hvm_10 hw_10 hB_10 hz_10 hk_10 hS => ?_)
  replace hB_10 := (show va_P (dC, dI) vwCl (offW a g) t_10.heap from hB_10)
  rw [ht_10] at hB_10
  have hP := hB_10
  obtain rfl : r_10 = 1 := hw_10
  refine lv_if_eq (tgt := 32) hx hb dX11_sortedShare_25 (by decide) (fun c_11 => absurd c_11 (by decide)) (fun c_11 => ?_)
  refine lv_iconst (v := 1) hx hb dX11_sortedShare_28 (by decide) ?_
  refine lv_goto (tgt := 33) hx hb dX11_sortedShare_29 (by decide) ?_
  refine lv_iadd hx hb dX11_sortedShare_33 ?_
  refine lv_topi (fun x_12 ex_12 => ?_)
  obtain rfl : x_12 = 3 := ex_12.trans (by decide)
  refine lv_istore_n (lv' := [(1, .int 3), (2, .int 2), (0, .ref (a 0))]) hx hb dX11_sortedShare_34 rfl hl (by decide) rfl (fun ls hl => ?_)
  refine lv_iinc (v := 3) (lv' := [(2, .int 3), (1, .int 3), (0, .ref (a 0))]) hx hb dX11_sortedShare_35 hl (k := 1) rfl (by decide) (by decide) rfl (fun ls hl => ?_)
  refine lv_goto (tgt := 4) hx hb dX11_sortedShare_38 (by decide) ?_
  refine lv_iload_n hx hb dX11_sortedShare_4 rfl (lv_at hl 0 rfl) ?_
  refine lv_bipush (v := 8) hx hb dX11_sortedShare_5 (by decide) ?_
  refine lv_icmp_ge (tgt := 41) hx hb dX11_sortedShare_7 (by decide) (fun c_13 => absurd c_13 (by decide)) (fun c_13 => ?_)
  refine lv_iload_n hx hb dX11_sortedShare_10 rfl (lv_at hl 1 rfl) ?_
  refine lv_aload_n hx hb dX11_sortedShare_11 rfl (lv_at hl 2 rfl) ?_
  refine va_get (D := (dC, dI)) (ci := 13) (v := .ref (a 4)) (C := RX11) (T := TX11) (N := 13) hx hb hts hiX11 hown hK hP 0 (o_0 a g) rfl 1 (by decide) hf18 (fun _ h9 => h9) rfl dX11_sortedShare_12 ?_
  refine lv_iload_n hx hb dX11_sortedShare_15 rfl (lv_at hl 0 rfl) ?_
  refine va_aldq hx hb hK hP 4 1 (o_4 a g) rfl (by unfold vp_in; decide) dX11_sortedShare_16 ?_
  refine lv_aload_n hx hb dX11_sortedShare_17 rfl (lv_at hl 2 rfl) ?_
  refine va_get (D := (dC, dI)) (ci := 13) (v := .ref (a 1)) (C := RX11) (T := TX11) (N := 13) hx hb hts hiX11 hown hK hP 0 (o_0 a g) rfl 0 (by decide) hf10 (fun _ h9 => h9) rfl dX11_sortedShare_18 ?_
  refine lv_iconst (v := 0) hx hb dX11_sortedShare_21 (by decide) ?_
  refine va_calli (va_runV (As := [.ref (a 1), .int 0]) (rest := [.int 3]) ⟨hx, hb, hml, hown, hts⟩ (c_X9_isInOrder l dC dI g (offW a g) (a 111) (a 119) (a 1) 0 111 (o_111 a g)  H_10.size) (cwV 2 hts gX11_sortedShare_X9_isInOrder rfl rfl rfl (by decide +kernel) ⟨Nat.le_of_ble_eq_true rfl, Nat.le_of_ble_eq_true rfl⟩) ⟨PG_blind, va_recv hK hP (ci := 11) (q0 := 111) rfl (o_111 a g), PG_call hK hG hS hP hD (A_all hD hA hS.1)⟩ rfl rfl hl.1 rfl (lv_room (Nat.le_of_ble_eq_true rfl)) dX11_sortedShare_22 ⟨Nat.le_of_ble_eq_true rfl, Nat.le_of_ble_eq_true rfl⟩) hS (fun q _ h => (A_all hD hA hS.1) q h) (A_all hD hA hS.1) (fun r_14 u_14 t_14 H_14 L_14 ht_14 hvm_14 hw_14 hB_14 hz_14 hk_14 hS => ?_)
  replace hB_14 := (show va_P (dC, dI) vwCl (offW a g) t_14.heap from hB_14)
  rw [ht_14] at hB_14
  have hP := hB_14
  obtain rfl : r_14 = 1 := hw_14
  refine lv_if_eq (tgt := 32) hx hb dX11_sortedShare_25 (by decide) (fun c_15 => absurd c_15 (by decide)) (fun c_15 => ?_)
  refine lv_iconst (v := 1) hx hb dX11_sortedShare_28 (by decide) ?_
  refine lv_goto (tgt := 33) hx hb dX11_sortedShare_29 (by decide) ?_
  refine lv_iadd hx hb dX11_sortedShare_33 ?_
  refine lv_topi (fun x_16 ex_16 => ?_)
  obtain rfl : x_16 = 4 := ex_16.trans (by decide)
  refine lv_istore_n (lv' := [(1, .int 4), (2, .int 3), (0, .ref (a 0))]) hx hb dX11_sortedShare_34 rfl hl (by decide) rfl (fun ls hl => ?_)
  refine lv_iinc (v := 4) (lv' := [(2, .int 4), (1, .int 4), (0, .ref (a 0))]) hx hb dX11_sortedShare_35 hl (k := 1) rfl (by decide) (by decide) rfl (fun ls hl => ?_)
  refine lv_goto (tgt := 4) hx hb dX11_sortedShare_38 (by decide) ?_
  refine lv_iload_n hx hb dX11_sortedShare_4 rfl (lv_at hl 0 rfl) ?_
  refine lv_bipush (v := 8) hx hb dX11_sortedShare_5 (by decide) ?_
  refine lv_icmp_ge (tgt := 41) hx hb dX11_sortedShare_7 (by decide) (fun c_17 => absurd c_17 (by decide)) (fun c_17 => ?_)
  refine lv_iload_n hx hb dX11_sortedShare_10 rfl (lv_at hl 1 rfl) ?_
  refine lv_aload_n hx hb dX11_sortedShare_11 rfl (lv_at hl 2 rfl) ?_
  refine va_get (D := (dC, dI)) (ci := 13) (v := .ref (a 4)) (C := RX11) (T := TX11) (N := 13) hx hb hts hiX11 hown hK hP 0 (o_0 a g) rfl 1 (by decide) hf18 (fun _ h9 => h9) rfl dX11_sortedShare_12 ?_
  refine lv_iload_n hx hb dX11_sortedShare_15 rfl (lv_at hl 0 rfl) ?_
  refine va_aldq hx hb hK hP 4 1 (o_4 a g) rfl (by unfold vp_in; decide) dX11_sortedShare_16 ?_
  refine lv_aload_n hx hb dX11_sortedShare_17 rfl (lv_at hl 2 rfl) ?_
  refine va_get (D := (dC, dI)) (ci := 13) (v := .ref (a 1)) (C := RX11) (T := TX11) (N := 13) hx hb hts hiX11 hown hK hP 0 (o_0 a g) rfl 0 (by decide) hf10 (fun _ h9 => h9) rfl dX11_sortedShare_18 ?_
  refine lv_iconst (v := 0) hx hb dX11_sortedShare_21 (by decide) ?_
  refine va_calli (va_runV (As := [.ref (a 1), .int 0]) (rest := [.int 4]) ⟨hx, hb, hml, hown, hts⟩ (c_X9_isInOrder l dC dI g (offW a g) (a 112) (a 120) (a 1) 0 112 (o_112 a g)  H_14.size) (cwV 2 hts gX11_sortedShare_X9_isInOrder rfl rfl rfl (by decide +kernel) ⟨Nat.le_of_ble_eq_true rfl, Nat.le_of_ble_eq_true rfl⟩) ⟨PG_blind, va_recv hK hP (ci := 11) (q0 := 112) rfl (o_112 a g), PG_call hK hG hS hP hD (A_all hD hA hS.1)⟩ rfl rfl hl.1 rfl (lv_room (Nat.le_of_ble_eq_true rfl)) dX11_sortedShare_22 ⟨Nat.le_of_ble_eq_true rfl, Nat.le_of_ble_eq_true rfl⟩) hS (fun q _ h => (A_all hD hA hS.1) q h) (A_all hD hA hS.1) (fun r_18 u_18 t_18 H_18 L_18 ht_18 hvm_18 hw_18 hB_18 hz_18 hk_18 hS => ?_)
  replace hB_18 := (show va_P (dC, dI) vwCl (offW a g) t_18.heap from hB_18)
  rw [ht_18] at hB_18
  have hP := hB_18
  obtain rfl : r_18 = 1 := hw_18
  refine lv_if_eq (tgt := 32) hx hb dX11_sortedShare_25 (by decide) (fun c_19 => absurd c_19 (by decide)) (fun c_19 => ?_)
  refine lv_iconst (v := 1) hx hb dX11_sortedShare_28 (by decide) ?_
  refine lv_goto (tgt := 33) hx hb dX11_sortedShare_29 (by decide) ?_
  refine lv_iadd hx hb dX11_sortedShare_33 ?_
  refine lv_topi (fun x_20 ex_20 => ?_)
  obtain rfl : x_20 = 5 := ex_20.trans (by decide)
  refine lv_istore_n (lv' := [(1, .int 5), (2, .int 4), (0, .ref (a 0))]) hx hb dX11_sortedShare_34 rfl hl (by decide) rfl (fun ls hl => ?_)
  refine lv_iinc (v := 5) (lv' := [(2, .int 5), (1, .int 5), (0, .ref (a 0))]) hx hb dX11_sortedShare_35 hl (k := 1) rfl (by decide) (by decide) rfl (fun ls hl => ?_)
  refine lv_goto (tgt := 4) hx hb dX11_sortedShare_38 (by decide) ?_
  refine lv_iload_n hx hb dX11_sortedShare_4 rfl (lv_at hl 0 rfl) ?_
  refine lv_bipush (v := 8) hx hb dX11_sortedShare_5 (by decide) ?_
  refine lv_icmp_ge (tgt := 41) hx hb dX11_sortedShare_7 (by decide) (fun c_21 => absurd c_21 (by decide)) (fun c_21 => ?_)
  refine lv_iload_n hx hb dX11_sortedShare_10 rfl (lv_at hl 1 rfl) ?_
  refine lv_aload_n hx hb dX11_sortedShare_11 rfl (lv_at hl 2 rfl) ?_
  refine va_get (D := (dC, dI)) (ci := 13) (v := .ref (a 4)) (C := RX11) (T := TX11) (N := 13) hx hb hts hiX11 hown hK hP 0 (o_0 a g) rfl 1 (by decide) hf18 (fun _ h9 => h9) rfl dX11_sortedShare_12 ?_
  refine lv_iload_n hx hb dX11_sortedShare_15 rfl (lv_at hl 0 rfl) ?_
  refine va_aldq hx hb hK hP 4 1 (o_4 a g) rfl (by unfold vp_in; decide) dX11_sortedShare_16 ?_
  refine lv_aload_n hx hb dX11_sortedShare_17 rfl (lv_at hl 2 rfl) ?_
  refine va_get (D := (dC, dI)) (ci := 13) (v := .ref (a 1)) (C := RX11) (T := TX11) (N := 13) hx hb hts hiX11 hown hK hP 0 (o_0 a g) rfl 0 (by decide) hf10 (fun _ h9 => h9) rfl dX11_sortedShare_18 ?_
  refine lv_iconst (v := 0) hx hb dX11_sortedShare_21 (by decide) ?_
  refine va_calli (va_runV (As := [.ref (a 1), .int 0]) (rest := [.int 5]) ⟨hx, hb, hml, hown, hts⟩ (c_X9_isInOrder l dC dI g (offW a g) (a 113) (a 121) (a 1) 0 113 (o_113 a g)  H_18.size) (cwV 2 hts gX11_sortedShare_X9_isInOrder rfl rfl rfl (by decide +kernel) ⟨Nat.le_of_ble_eq_true rfl, Nat.le_of_ble_eq_true rfl⟩) ⟨PG_blind, va_recv hK hP (ci := 11) (q0 := 113) rfl (o_113 a g), PG_call hK hG hS hP hD (A_all hD hA hS.1)⟩ rfl rfl hl.1 rfl (lv_room (Nat.le_of_ble_eq_true rfl)) dX11_sortedShare_22 ⟨Nat.le_of_ble_eq_true rfl, Nat.le_of_ble_eq_true rfl⟩) hS (fun q _ h => (A_all hD hA hS.1) q h) (A_all hD hA hS.1) (fun r_22 u_22 t_22 H_22 L_22 ht_22 hvm_22 hw_22 hB_22 hz_22 hk_22 hS => ?_)
  replace hB_22 := (show va_P (dC, dI) vwCl (offW a g) t_22.heap from hB_22)
  rw [ht_22] at hB_22
  have hP := hB_22
  obtain rfl : r_22 = 1 := hw_22
  refine lv_if_eq (tgt := 32) hx hb dX11_sortedShare_25 (by decide) (fun c_23 => absurd c_23 (by decide)) (fun c_23 => ?_)
  refine lv_iconst (v := 1) hx hb dX11_sortedShare_28 (by decide) ?_
  refine lv_goto (tgt := 33) hx hb dX11_sortedShare_29 (by decide) ?_
  refine lv_iadd hx hb dX11_sortedShare_33 ?_
  refine lv_topi (fun x_24 ex_24 => ?_)
  obtain rfl : x_24 = 6 := ex_24.trans (by decide)
  refine lv_istore_n (lv' := [(1, .int 6), (2, .int 5), (0, .ref (a 0))]) hx hb dX11_sortedShare_34 rfl hl (by decide) rfl (fun ls hl => ?_)
  refine lv_iinc (v := 6) (lv' := [(2, .int 6), (1, .int 6), (0, .ref (a 0))]) hx hb dX11_sortedShare_35 hl (k := 1) rfl (by decide) (by decide) rfl (fun ls hl => ?_)
  refine lv_goto (tgt := 4) hx hb dX11_sortedShare_38 (by decide) ?_
  refine lv_iload_n hx hb dX11_sortedShare_4 rfl (lv_at hl 0 rfl) ?_
  refine lv_bipush (v := 8) hx hb dX11_sortedShare_5 (by decide) ?_
  refine lv_icmp_ge (tgt := 41) hx hb dX11_sortedShare_7 (by decide) (fun c_25 => absurd c_25 (by decide)) (fun c_25 => ?_)
  refine lv_iload_n hx hb dX11_sortedShare_10 rfl (lv_at hl 1 rfl) ?_
  refine lv_aload_n hx hb dX11_sortedShare_11 rfl (lv_at hl 2 rfl) ?_
  refine va_get (D := (dC, dI)) (ci := 13) (v := .ref (a 4)) (C := RX11) (T := TX11) (N := 13) hx hb hts hiX11 hown hK hP 0 (o_0 a g) rfl 1 (by decide) hf18 (fun _ h9 => h9) rfl dX11_sortedShare_12 ?_
  refine lv_iload_n hx hb dX11_sortedShare_15 rfl (lv_at hl 0 rfl) ?_
  refine va_aldq hx hb hK hP 4 1 (o_4 a g) rfl (by unfold vp_in; decide) dX11_sortedShare_16 ?_
  refine lv_aload_n hx hb dX11_sortedShare_17 rfl (lv_at hl 2 rfl) ?_
  refine va_get (D := (dC, dI)) (ci := 13) (v := .ref (a 1)) (C := RX11) (T := TX11) (N := 13) hx hb hts hiX11 hown hK hP 0 (o_0 a g) rfl 0 (by decide) hf10 (fun _ h9 => h9) rfl dX11_sortedShare_18 ?_
  refine lv_iconst (v := 0) hx hb dX11_sortedShare_21 (by decide) ?_
  refine va_calli (va_runV (As := [.ref (a 1), .int 0]) (rest := [.int 6]) ⟨hx, hb, hml, hown, hts⟩ (c_X9_isInOrder l dC dI g (offW a g) (a 114) (a 122) (a 1) 0 114 (o_114 a g)  H_22.size) (cwV 2 hts gX11_sortedShare_X9_isInOrder rfl rfl rfl (by decide +kernel) ⟨Nat.le_of_ble_eq_true rfl, Nat.le_of_ble_eq_true rfl⟩) ⟨PG_blind, va_recv hK hP (ci := 11) (q0 := 114) rfl (o_114 a g), PG_call hK hG hS hP hD (A_all hD hA hS.1)⟩ rfl rfl hl.1 rfl (lv_room (Nat.le_of_ble_eq_true rfl)) dX11_sortedShare_22 ⟨Nat.le_of_ble_eq_true rfl, Nat.le_of_ble_eq_true rfl⟩) hS (fun q _ h => (A_all hD hA hS.1) q h) (A_all hD hA hS.1) (fun r_26 u_26 t_26 H_26 L_26 ht_26 hvm_26 hw_26 hB_26 hz_26 hk_26 hS => ?_)
  replace hB_26 := (show va_P (dC, dI) vwCl (offW a g) t_26.heap from hB_26)
  rw [ht_26] at hB_26
  have hP := hB_26
  obtain rfl : r_26 = 1 := hw_26
  refine lv_if_eq (tgt := 32) hx hb dX11_sortedShare_25 (by decide) (fun c_27 => absurd c_27 (by decide)) (fun c_27 => ?_)
  refine lv_iconst (v := 1) hx hb dX11_sortedShare_28 (by decide) ?_
  refine lv_goto (tgt := 33) hx hb dX11_sortedShare_29 (by decide) ?_
  refine lv_iadd hx hb dX11_sortedShare_33 ?_
  refine lv_topi (fun x_28 ex_28 => ?_)
  obtain rfl : x_28 = 7 := ex_28.trans (by decide)
  refine lv_istore_n (lv' := [(1, .int 7), (2, .int 6), (0, .ref (a 0))]) hx hb dX11_sortedShare_34 rfl hl (by decide) rfl (fun ls hl => ?_)
  refine lv_iinc (v := 7) (lv' := [(2, .int 7), (1, .int 7), (0, .ref (a 0))]) hx hb dX11_sortedShare_35 hl (k := 1) rfl (by decide) (by decide) rfl (fun ls hl => ?_)
  refine lv_goto (tgt := 4) hx hb dX11_sortedShare_38 (by decide) ?_
  refine lv_iload_n hx hb dX11_sortedShare_4 rfl (lv_at hl 0 rfl) ?_
  refine lv_bipush (v := 8) hx hb dX11_sortedShare_5 (by decide) ?_
  refine lv_icmp_ge (tgt := 41) hx hb dX11_sortedShare_7 (by decide) (fun c_29 => absurd c_29 (by decide)) (fun c_29 => ?_)
  refine lv_iload_n hx hb dX11_sortedShare_10 rfl (lv_at hl 1 rfl) ?_
  refine lv_aload_n hx hb dX11_sortedShare_11 rfl (lv_at hl 2 rfl) ?_
  refine va_get (D := (dC, dI)) (ci := 13) (v := .ref (a 4)) (C := RX11) (T := TX11) (N := 13) hx hb hts hiX11 hown hK hP 0 (o_0 a g) rfl 1 (by decide) hf18 (fun _ h9 => h9) rfl dX11_sortedShare_12 ?_
  refine lv_iload_n hx hb dX11_sortedShare_15 rfl (lv_at hl 0 rfl) ?_
  refine va_aldq hx hb hK hP 4 1 (o_4 a g) rfl (by unfold vp_in; decide) dX11_sortedShare_16 ?_
  refine lv_aload_n hx hb dX11_sortedShare_17 rfl (lv_at hl 2 rfl) ?_
  refine va_get (D := (dC, dI)) (ci := 13) (v := .ref (a 1)) (C := RX11) (T := TX11) (N := 13) hx hb hts hiX11 hown hK hP 0 (o_0 a g) rfl 0 (by decide) hf10 (fun _ h9 => h9) rfl dX11_sortedShare_18 ?_
  refine lv_iconst (v := 0) hx hb dX11_sortedShare_21 (by decide) ?_
  refine va_calli (va_runV (As := [.ref (a 1), .int 0]) (rest := [.int 7]) ⟨hx, hb, hml, hown, hts⟩ (c_X9_isInOrder l dC dI g (offW a g) (a 115) (a 123) (a 1) 0 115 (o_115 a g)  H_26.size) (cwV 2 hts gX11_sortedShare_X9_isInOrder rfl rfl rfl (by decide +kernel) ⟨Nat.le_of_ble_eq_true rfl, Nat.le_of_ble_eq_true rfl⟩) ⟨PG_blind, va_recv hK hP (ci := 11) (q0 := 115) rfl (o_115 a g), PG_call hK hG hS hP hD (A_all hD hA hS.1)⟩ rfl rfl hl.1 rfl (lv_room (Nat.le_of_ble_eq_true rfl)) dX11_sortedShare_22 ⟨Nat.le_of_ble_eq_true rfl, Nat.le_of_ble_eq_true rfl⟩) hS (fun q _ h => (A_all hD hA hS.1) q h) (A_all hD hA hS.1) (fun r_30 u_30 t_30 H_30 L_30 ht_30 hvm_30 hw_30 hB_30 hz_30 hk_30 hS => ?_)
  replace hB_30 := (show va_P (dC, dI) vwCl (offW a g) t_30.heap from hB_30)
  rw [ht_30] at hB_30
  have hP := hB_30
  obtain rfl : r_30 = 1 := hw_30
  refine lv_if_eq (tgt := 32) hx hb dX11_sortedShare_25 (by decide) (fun c_31 => absurd c_31 (by decide)) (fun c_31 => ?_)
  refine lv_iconst (v := 1) hx hb dX11_sortedShare_28 (by decide) ?_
  refine lv_goto (tgt := 33) hx hb dX11_sortedShare_29 (by decide) ?_
  refine lv_iadd hx hb dX11_sortedShare_33 ?_
  refine lv_topi (fun x_32 ex_32 => ?_)
  obtain rfl : x_32 = 8 := ex_32.trans (by decide)
  refine lv_istore_n (lv' := [(1, .int 8), (2, .int 7), (0, .ref (a 0))]) hx hb dX11_sortedShare_34 rfl hl (by decide) rfl (fun ls hl => ?_)
  refine lv_iinc (v := 8) (lv' := [(2, .int 8), (1, .int 8), (0, .ref (a 0))]) hx hb dX11_sortedShare_35 hl (k := 1) rfl (by decide) (by decide) rfl (fun ls hl => ?_)
  refine lv_goto (tgt := 4) hx hb dX11_sortedShare_38 (by decide) ?_
  refine lv_iload_n hx hb dX11_sortedShare_4 rfl (lv_at hl 0 rfl) ?_
  refine lv_bipush (v := 8) hx hb dX11_sortedShare_5 (by decide) ?_
  refine lv_icmp_ge (tgt := 41) hx hb dX11_sortedShare_7 (by decide) (fun c_33 => ?_) (fun c_33 => absurd (by decide) c_33)
  refine lv_iload_n hx hb dX11_sortedShare_41 rfl (lv_at hl 1 rfl) ?_
  refine lv_i2f hx hb dX11_sortedShare_42 ?_
  refine lv_ldcf hx hb hown hk340 dX11_sortedShare_43 ?_
  refine lv_fdiv hx hb dX11_sortedShare_46 (by decide +kernel) ?_
  exact W.fret (v := FP.fdiv (FP.i2f 8) 1090519040) hx hb hr (fun t ht hW => ⟨⟨FP.fdiv (FP.i2f 8) 1090519040, (), rfl, rfl, trivial⟩, hS.F ht⟩) hS.2.2 dX11_sortedShare_47
set_option maxHeartbeats 4000000 in
set_option maxRecDepth 100000 in
theorem c_X11_join (l : Launch) (dC : Nat → ClassId) (dI : Nat → Nat → Nat) (g : Nat → ClassId) (a : Nat → Nat) (t1 : Nat) (h1 : Nat) (t2 : Nat) (h2 : Nat) (t3 : Nat) (h3 : Nat) (k : Int32) (p1 : Nat) (p2 : Nat) (p3 : Nat) (q1 : (offW a g)[p1]? = some (t1, .inr (11, [.ref h1, .int 0]))) (q2 : (offW a g)[p2]? = some (t2, .inr (11, [.ref h2, .int 0]))) (q3 : (offW a g)[p3]? = some (t3, .inr (11, [.ref h3, .int 0]))) (sz : Nat) : Met l yX11_join wsX11_join ({ frames := 2, cells := 0, slots := 0, locals := 36 }) (va_Pc [.ref (a 0), .ref t1, .ref t2, .ref t3, .int k] (PG (dC, dI) g (offW a g) sz)) (va_Qi (fun (r : Int32) (_ : Unit) => r = 1) (fun (_ : Unit) t => va_P (dC, dI) vwCl (offW a g) t.heap) (va_A (offW a g) sz)) 0 0 (va_A (offW a g) sz) := by
  refine Met.ofW (cc := cX11_join) (maxL := 5) (ret := (some .boolean)) (by decide) rfl ?_
  intro p e s m args below meth c s₁ B hml hv
  obtain ⟨rfl, hsz, hP, hK, hD0, hG⟩ := hv
  have hx := B.exec
  have hb := B.bytes
  have hr := B.returns
  have hts := atoms_spec (ws := wsX11_join) B.pre
  have hown : s.vm.findClass RX11 = some m.cls := findClass_of_methodNamed B.named
  have hlocks := B.notSynchronized
  subst hsz
  have hD := hD0.self (sz := s.heap.size)
  generalize hAe : va_A (offW a g) s.heap.size = A at hD hG ⊢
  have hA : ∀ q : Nat, s.heap.size ≤ q → A q := fun q h => by rw [← hAe]; exact Or.inr h
  have hS : va_S A s.heap s.heap [] := va_S.rf
  have hl := lv_entry ([.ref (a 0), .ref t1, .ref t2, .ref t3, .int k]) (n := 5) (Nat.le_of_ble_eq_true rfl)
  rw [lg_entry_eq]
  generalize (lg_sl ([.ref (a 0), .ref t1, .ref t2, .ref t3, .int k]) ++ List.replicate (5 - (lg_sl ([.ref (a 0), .ref t1, .ref t2, .ref t3, .int k])).length) Slot.unset).toArray = ls at hl ⊢
  have hl : lv_has ls 5 [(0, .ref (a 0)), (1, .ref t1), (2, .ref t2), (3, .ref t3), (4, .int k)] := hl
  have hf10 : (Cond.fieldLink RX11 10 "RunmergeOffice" "book" "LRunmergeOffice$Book;").before args s = true := hts _ (by decide +kernel)
  have hiX11 : ∀ w ∈ u_ws RX11 TX11 13, w ∈ wsX11_join := by decide +kernel
  have hf26 : (Cond.fieldLink RX11 26 "RunmergeOffice" "joined" "LRunmergeOffice$Tape;").before args s = true := hts _ (by decide +kernel)
  have hiX9 : ∀ w ∈ u_ws RX9 TX9 2, w ∈ wsX11_join := by decide +kernel
  refine lv_aload_n hx hb dX11_join_0 rfl (lv_at hl 1 rfl) ?_
  refine lv_aload_n hx hb dX11_join_1 rfl (lv_at hl 0 rfl) ?_
  refine va_get (D := (dC, dI)) (ci := 13) (v := .ref (a 1)) (C := RX11) (T := TX11) (N := 13) hx hb hts hiX11 hown hK hP 0 (o_0 a g) rfl 0 (by decide) hf10 (fun _ h9 => h9) rfl dX11_join_2 ?_
  refine lv_iconst (v := 0) hx hb dX11_join_5 (by decide) ?_
  refine va_calli (va_runV (As := [.ref (a 1), .int 0]) (rest := []) ⟨hx, hb, hml, hown, hts⟩ (c_X9_isInOrder l dC dI g (offW a g) t1 h1 (a 1) 0 p1 q1  s.heap.size) (cwV 2 hts gX11_join_X9_isInOrder rfl rfl rfl (by decide +kernel) ⟨Nat.le_of_ble_eq_true rfl, Nat.le_of_ble_eq_true rfl⟩) ⟨PG_blind, va_recv hK hP (ci := 11) (q0 := p1) rfl q1, PG_call hK hG hS hP hD (A_all hD hA hS.1)⟩ rfl rfl hl.1 rfl (lv_room (Nat.le_of_ble_eq_true rfl)) dX11_join_6 ⟨Nat.le_of_ble_eq_true rfl, Nat.le_of_ble_eq_true rfl⟩) hS (fun q _ h => (A_all hD hA hS.1) q h) (A_all hD hA hS.1) (fun r_1 u_1 t_1 H_1 L_1 ht_1 hvm_1 hw_1 hB_1 hz_1 hk_1 hS => ?_)
  replace hB_1 := (show va_P (dC, dI) vwCl (offW a g) t_1.heap from hB_1)
  rw [ht_1] at hB_1
  have hP := hB_1
  obtain rfl : r_1 = 1 := hw_1
  refine lv_if_eq (tgt := 24) hx hb dX11_join_9 (by decide) (fun c_2 => absurd c_2 (by decide)) (fun c_2 => ?_)
  refine lv_aload_n hx hb dX11_join_12 rfl (lv_at hl 2 rfl) ?_
  refine lv_aload_n hx hb dX11_join_13 rfl (lv_at hl 0 rfl) ?_
  refine va_get (D := (dC, dI)) (ci := 13) (v := .ref (a 1)) (C := RX11) (T := TX11) (N := 13) hx hb hts hiX11 hown hK hP 0 (o_0 a g) rfl 0 (by decide) hf10 (fun _ h9 => h9) rfl dX11_join_14 ?_
  refine lv_iconst (v := 0) hx hb dX11_join_17 (by decide) ?_
  refine va_calli (va_runV (As := [.ref (a 1), .int 0]) (rest := []) ⟨hx, hb, hml, hown, hts⟩ (c_X9_isInOrder l dC dI g (offW a g) t2 h2 (a 1) 0 p2 q2  H_1.size) (cwV 2 hts gX11_join_X9_isInOrder rfl rfl rfl (by decide +kernel) ⟨Nat.le_of_ble_eq_true rfl, Nat.le_of_ble_eq_true rfl⟩) ⟨PG_blind, va_recv hK hP (ci := 11) (q0 := p2) rfl q2, PG_call hK hG hS hP hD (A_all hD hA hS.1)⟩ rfl rfl hl.1 rfl (lv_room (Nat.le_of_ble_eq_true rfl)) dX11_join_18 ⟨Nat.le_of_ble_eq_true rfl, Nat.le_of_ble_eq_true rfl⟩) hS (fun q _ h => (A_all hD hA hS.1) q h) (A_all hD hA hS.1) (fun r_3 u_3 t_3 H_3 L_3 ht_3 hvm_3 hw_3 hB_3 hz_3 hk_3 hS => ?_)
  replace hB_3 := (show va_P (dC, dI) vwCl (offW a g) t_3.heap from hB_3)
  rw [ht_3] at hB_3
  have hP := hB_3
  obtain rfl : r_3 = 1 := hw_3
  refine lv_if_ne (tgt := 26) hx hb dX11_join_21 (by decide) (fun c_4 => ?_) (fun c_4 => absurd c_4 (by decide))
  refine lv_iload hx hb dX11_join_26 (lv_at hl 4 rfl) ?_
  refine lv_if_ne (tgt := 47) hx hb dX11_join_28 (by decide) (fun c_5 => ?_) (fun c_5 => ?_)
  · refine lv_aload_n hx hb dX11_join_47 rfl (lv_at hl 0 rfl) ?_
    refine va_get (D := (dC, dI)) (ci := 13) (v := .ref (a 6)) (C := RX11) (T := TX11) (N := 13) hx hb hts hiX11 hown hK hP 0 (o_0 a g) rfl 3 (by decide) hf26 (fun _ h9 => h9) rfl dX11_join_48 ?_
    refine va_callv (va_runV (As := []) (rest := []) ⟨hx, hb, hml, hown, hts⟩ (c_X9_empty l dC dI g (offW a g) (a 6) (a 7) 6 (o_6 a g)  H_3.size) (cwV 0 hts gX11_join_X9_empty rfl rfl rfl (by decide +kernel) ⟨Nat.le_of_ble_eq_true rfl, Nat.le_of_ble_eq_true rfl⟩) ⟨PG_blind, va_recv hK hP (ci := 11) (q0 := 6) rfl (o_6 a g), PG_call hK hG hS hP hD (A_all hD hA hS.1)⟩ rfl rfl hl.1 rfl (lv_room (Nat.le_of_ble_eq_true rfl)) dX11_join_51 ⟨Nat.le_of_ble_eq_true rfl, Nat.le_of_ble_eq_true rfl⟩) hS (fun q _ h => (A_all hD hA hS.1) q h) (A_all hD hA hS.1) (fun u_6 t_6 H_6 L_6 ht_6 hvm_6 hw_6 hB_6 hz_6 hk_6 hS => ?_)
    replace hB_6 := (show va_P (dC, dI) vwCl (offW a g) t_6.heap from hB_6)
    rw [ht_6] at hB_6
    have hP := hB_6
    refine lv_iload hx hb dX11_join_54 (lv_at hl 4 rfl) ?_
    refine lv_if_ne (tgt := 75) hx hb dX11_join_56 (by decide) (fun c_7 => ?_) (fun c_7 => absurd c_7 (c_5))
    refine lv_aload_n hx hb dX11_join_75 rfl (lv_at hl 0 rfl) ?_
    refine va_get (D := (dC, dI)) (ci := 13) (v := .ref (a 6)) (C := RX11) (T := TX11) (N := 13) hx hb hts hiX11 hown hK hP 0 (o_0 a g) rfl 3 (by decide) hf26 (fun _ h9 => h9) rfl dX11_join_76 ?_
    refine lv_aload_n hx hb dX11_join_79 rfl (lv_at hl 0 rfl) ?_
    refine va_get (D := (dC, dI)) (ci := 13) (v := .ref (a 1)) (C := RX11) (T := TX11) (N := 13) hx hb hts hiX11 hown hK hP 0 (o_0 a g) rfl 0 (by decide) hf10 (fun _ h9 => h9) rfl dX11_join_80 ?_
    refine lv_aload_n hx hb dX11_join_83 rfl (lv_at hl 1 rfl) ?_
    refine lv_aload_n hx hb dX11_join_84 rfl (lv_at hl 2 rfl) ?_
    refine lv_iload hx hb dX11_join_85 (lv_at hl 4 rfl) ?_
    refine lv_iconst (v := 1) hx hb dX11_join_87 (by decide) ?_
    refine lv_icmp_ne (tgt := 95) hx hb dX11_join_88 (by decide) (fun c_8 => ?_) (fun c_8 => ?_)
    · refine lv_iconst (v := 0) hx hb dX11_join_95 (by decide) ?_
      refine va_callv (va_runV (As := [.ref (a 1), .ref t1, .ref t2, .int 0]) (rest := []) ⟨hx, hb, hml, hown, hts⟩ (c_X9_pick l dC dI g (offW a g) (a 6) (a 1) t1 h1 t2 0 p1 q1  H_6.size) (cwV 4 hts gX11_join_X9_pick rfl rfl rfl (by decide +kernel) ⟨Nat.le_of_ble_eq_true rfl, Nat.le_of_ble_eq_true rfl⟩) ⟨PG_blind, va_recv hK hP (ci := 11) (q0 := 6) rfl (o_6 a g), PG_call hK hG hS hP hD (A_all hD hA hS.1)⟩ rfl rfl hl.1 rfl (lv_room (Nat.le_of_ble_eq_true rfl)) dX11_join_96 ⟨Nat.le_of_ble_eq_true rfl, Nat.le_of_ble_eq_true rfl⟩) hS (fun q _ h => (A_all hD hA hS.1) q h) (A_all hD hA hS.1) (fun u_9 t_9 H_9 L_9 ht_9 hvm_9 hw_9 hB_9 hz_9 hk_9 hS => ?_)
      replace hB_9 := (show va_P (dC, dI) vwCl (offW a g) t_9.heap from hB_9)
      rw [ht_9] at hB_9
      have hP := hB_9
      refine lv_aload_n hx hb dX11_join_99 rfl (lv_at hl 3 rfl) ?_
      refine lv_aload_n hx hb dX11_join_100 rfl (lv_at hl 0 rfl) ?_
      refine va_get (D := (dC, dI)) (ci := 13) (v := .ref (a 6)) (C := RX11) (T := TX11) (N := 13) hx hb hts hiX11 hown hK hP 0 (o_0 a g) rfl 3 (by decide) hf26 (fun _ h9 => h9) rfl dX11_join_101 ?_
      refine va_callv (va_runV (As := [.ref (a 6)]) (rest := []) ⟨hx, hb, hml, hown, hts⟩ (c_X9_takeOver l dC dI g (offW a g) t3 h3 (a 6) (a 7) p3 q3 6 (o_6 a g)  H_9.size) (cwV 1 hts gX11_join_X9_takeOver rfl rfl rfl (by decide +kernel) ⟨Nat.le_of_ble_eq_true rfl, Nat.le_of_ble_eq_true rfl⟩) ⟨PG_blind, va_recv hK hP (ci := 11) (q0 := p3) rfl q3, PG_call hK hG hS hP hD (A_all hD hA hS.1)⟩ rfl rfl hl.1 rfl (lv_room (Nat.le_of_ble_eq_true rfl)) dX11_join_104 ⟨Nat.le_of_ble_eq_true rfl, Nat.le_of_ble_eq_true rfl⟩) hS (fun q _ h => (A_all hD hA hS.1) q h) (A_all hD hA hS.1) (fun u_10 t_10 H_10 L_10 ht_10 hvm_10 hw_10 hB_10 hz_10 hk_10 hS => ?_)
      replace hB_10 := (show va_P (dC, dI) vwCl (offW a g) t_10.heap from hB_10)
      rw [ht_10] at hB_10
      have hP := hB_10
      refine lv_iconst (v := 1) hx hb dX11_join_107 (by decide) ?_
      exact W.zret (v := 1) hx hb hr rfl (fun t ht hW => ⟨⟨1, (), rfl, rfl, by rw [ht]; exact hP⟩, hS.F ht⟩) hS.2.2 dX11_join_108
    · refine lv_iconst (v := 1) hx hb dX11_join_91 (by decide) ?_
      refine lv_goto (tgt := 96) hx hb dX11_join_92 (by decide) ?_
      refine va_callv (va_runV (As := [.ref (a 1), .ref t1, .ref t2, .int 1]) (rest := []) ⟨hx, hb, hml, hown, hts⟩ (c_X9_pick l dC dI g (offW a g) (a 6) (a 1) t1 h1 t2 1 p1 q1  H_6.size) (cwV 4 hts gX11_join_X9_pick rfl rfl rfl (by decide +kernel) ⟨Nat.le_of_ble_eq_true rfl, Nat.le_of_ble_eq_true rfl⟩) ⟨PG_blind, va_recv hK hP (ci := 11) (q0 := 6) rfl (o_6 a g), PG_call hK hG hS hP hD (A_all hD hA hS.1)⟩ rfl rfl hl.1 rfl (lv_room (Nat.le_of_ble_eq_true rfl)) dX11_join_96 ⟨Nat.le_of_ble_eq_true rfl, Nat.le_of_ble_eq_true rfl⟩) hS (fun q _ h => (A_all hD hA hS.1) q h) (A_all hD hA hS.1) (fun u_11 t_11 H_11 L_11 ht_11 hvm_11 hw_11 hB_11 hz_11 hk_11 hS => ?_)
      replace hB_11 := (show va_P (dC, dI) vwCl (offW a g) t_11.heap from hB_11)
      rw [ht_11] at hB_11
      have hP := hB_11
      refine lv_aload_n hx hb dX11_join_99 rfl (lv_at hl 3 rfl) ?_
      refine lv_aload_n hx hb dX11_join_100 rfl (lv_at hl 0 rfl) ?_
      refine va_get (D := (dC, dI)) (ci := 13) (v := .ref (a 6)) (C := RX11) (T := TX11) (N := 13) hx hb hts hiX11 hown hK hP 0 (o_0 a g) rfl 3 (by decide) hf26 (fun _ h9 => h9) rfl dX11_join_101 ?_
      refine va_callv (va_runV (As := [.ref (a 6)]) (rest := []) ⟨hx, hb, hml, hown, hts⟩ (c_X9_takeOver l dC dI g (offW a g) t3 h3 (a 6) (a 7) p3 q3 6 (o_6 a g)  H_11.size) (cwV 1 hts gX11_join_X9_takeOver rfl rfl rfl (by decide +kernel) ⟨Nat.le_of_ble_eq_true rfl, Nat.le_of_ble_eq_true rfl⟩) ⟨PG_blind, va_recv hK hP (ci := 11) (q0 := p3) rfl q3, PG_call hK hG hS hP hD (A_all hD hA hS.1)⟩ rfl rfl hl.1 rfl (lv_room (Nat.le_of_ble_eq_true rfl)) dX11_join_104 ⟨Nat.le_of_ble_eq_true rfl, Nat.le_of_ble_eq_true rfl⟩) hS (fun q _ h => (A_all hD hA hS.1) q h) (A_all hD hA hS.1) (fun u_12 t_12 H_12 L_12 ht_12 hvm_12 hw_12 hB_12 hz_12 hk_12 hS => ?_)
      replace hB_12 := (show va_P (dC, dI) vwCl (offW a g) t_12.heap from hB_12)
      rw [ht_12] at hB_12
      have hP := hB_12
      refine lv_iconst (v := 1) hx hb dX11_join_107 (by decide) ?_
      exact W.zret (v := 1) hx hb hr rfl (fun t ht hW => ⟨⟨1, (), rfl, rfl, by rw [ht]; exact hP⟩, hS.F ht⟩) hS.2.2 dX11_join_108
  · refine lv_aload_n hx hb dX11_join_31 rfl (lv_at hl 1 rfl) ?_
    refine va_getN (D := (dC, dI)) (ci := 11) (v := .int 0) (C := RX9) (T := TX9) (N := 2) hx hb hts hiX9 hown hK hP p1 q1 rfl 1 (by decide) (nf_3 hG) (fun _ h9 => h9) rfl dX11_join_32 ?_
    refine lv_aload_n hx hb dX11_join_35 rfl (lv_at hl 2 rfl) ?_
    refine va_getN (D := (dC, dI)) (ci := 11) (v := .int 0) (C := RX9) (T := TX9) (N := 2) hx hb hts hiX9 hown hK hP p2 q2 rfl 1 (by decide) (nf_3 hG) (fun _ h9 => h9) rfl dX11_join_36 ?_
    refine lv_iadd hx hb dX11_join_39 ?_
    refine lv_topi (fun x_13 ex_13 => ?_)
    obtain rfl : x_13 = 0 := ex_13.trans (by decide)
    refine lv_bipush (v := 100) hx hb dX11_join_40 (by decide) ?_
    refine lv_icmp_le (tgt := 47) hx hb dX11_join_42 (by decide) (fun c_14 => ?_) (fun c_14 => absurd (by decide) c_14)
    refine lv_aload_n hx hb dX11_join_47 rfl (lv_at hl 0 rfl) ?_
    refine va_get (D := (dC, dI)) (ci := 13) (v := .ref (a 6)) (C := RX11) (T := TX11) (N := 13) hx hb hts hiX11 hown hK hP 0 (o_0 a g) rfl 3 (by decide) hf26 (fun _ h9 => h9) rfl dX11_join_48 ?_
    refine va_callv (va_runV (As := []) (rest := []) ⟨hx, hb, hml, hown, hts⟩ (c_X9_empty l dC dI g (offW a g) (a 6) (a 7) 6 (o_6 a g)  H_3.size) (cwV 0 hts gX11_join_X9_empty rfl rfl rfl (by decide +kernel) ⟨Nat.le_of_ble_eq_true rfl, Nat.le_of_ble_eq_true rfl⟩) ⟨PG_blind, va_recv hK hP (ci := 11) (q0 := 6) rfl (o_6 a g), PG_call hK hG hS hP hD (A_all hD hA hS.1)⟩ rfl rfl hl.1 rfl (lv_room (Nat.le_of_ble_eq_true rfl)) dX11_join_51 ⟨Nat.le_of_ble_eq_true rfl, Nat.le_of_ble_eq_true rfl⟩) hS (fun q _ h => (A_all hD hA hS.1) q h) (A_all hD hA hS.1) (fun u_15 t_15 H_15 L_15 ht_15 hvm_15 hw_15 hB_15 hz_15 hk_15 hS => ?_)
    replace hB_15 := (show va_P (dC, dI) vwCl (offW a g) t_15.heap from hB_15)
    rw [ht_15] at hB_15
    have hP := hB_15
    refine lv_iload hx hb dX11_join_54 (lv_at hl 4 rfl) ?_
    refine lv_if_ne (tgt := 75) hx hb dX11_join_56 (by decide) (fun c_16 => absurd (c_5) c_16) (fun c_16 => ?_)
    refine lv_aload_n hx hb dX11_join_59 rfl (lv_at hl 0 rfl) ?_
    refine va_get (D := (dC, dI)) (ci := 13) (v := .ref (a 6)) (C := RX11) (T := TX11) (N := 13) hx hb hts hiX11 hown hK hP 0 (o_0 a g) rfl 3 (by decide) hf26 (fun _ h9 => h9) rfl dX11_join_60 ?_
    refine lv_aload_n hx hb dX11_join_63 rfl (lv_at hl 0 rfl) ?_
    refine va_get (D := (dC, dI)) (ci := 13) (v := .ref (a 1)) (C := RX11) (T := TX11) (N := 13) hx hb hts hiX11 hown hK hP 0 (o_0 a g) rfl 0 (by decide) hf10 (fun _ h9 => h9) rfl dX11_join_64 ?_
    refine lv_aload_n hx hb dX11_join_67 rfl (lv_at hl 1 rfl) ?_
    refine lv_aload_n hx hb dX11_join_68 rfl (lv_at hl 2 rfl) ?_
    refine va_callv (va_runV (As := [.ref (a 1), .ref t1, .ref t2]) (rest := []) ⟨hx, hb, hml, hown, hts⟩ (c_X9_unite l dC dI g (offW a g) (a 6) (a 1) t1 h1 t2 h2 p1 q1 p2 q2  H_15.size) (cwV 3 hts gX11_join_X9_unite rfl rfl rfl (by decide +kernel) ⟨Nat.le_of_ble_eq_true rfl, Nat.le_of_ble_eq_true rfl⟩) ⟨PG_blind, va_recv hK hP (ci := 11) (q0 := 6) rfl (o_6 a g), PG_call hK hG hS hP hD (A_all hD hA hS.1)⟩ rfl rfl hl.1 rfl (lv_room (Nat.le_of_ble_eq_true rfl)) dX11_join_69 ⟨Nat.le_of_ble_eq_true rfl, Nat.le_of_ble_eq_true rfl⟩) hS (fun q _ h => (A_all hD hA hS.1) q h) (A_all hD hA hS.1) (fun u_17 t_17 H_17 L_17 ht_17 hvm_17 hw_17 hB_17 hz_17 hk_17 hS => ?_)
    replace hB_17 := (show va_P (dC, dI) vwCl (offW a g) t_17.heap from hB_17)
    rw [ht_17] at hB_17
    have hP := hB_17
    refine lv_goto (tgt := 99) hx hb dX11_join_72 (by decide) ?_
    refine lv_aload_n hx hb dX11_join_99 rfl (lv_at hl 3 rfl) ?_
    refine lv_aload_n hx hb dX11_join_100 rfl (lv_at hl 0 rfl) ?_
    refine va_get (D := (dC, dI)) (ci := 13) (v := .ref (a 6)) (C := RX11) (T := TX11) (N := 13) hx hb hts hiX11 hown hK hP 0 (o_0 a g) rfl 3 (by decide) hf26 (fun _ h9 => h9) rfl dX11_join_101 ?_
    refine va_callv (va_runV (As := [.ref (a 6)]) (rest := []) ⟨hx, hb, hml, hown, hts⟩ (c_X9_takeOver l dC dI g (offW a g) t3 h3 (a 6) (a 7) p3 q3 6 (o_6 a g)  H_17.size) (cwV 1 hts gX11_join_X9_takeOver rfl rfl rfl (by decide +kernel) ⟨Nat.le_of_ble_eq_true rfl, Nat.le_of_ble_eq_true rfl⟩) ⟨PG_blind, va_recv hK hP (ci := 11) (q0 := p3) rfl q3, PG_call hK hG hS hP hD (A_all hD hA hS.1)⟩ rfl rfl hl.1 rfl (lv_room (Nat.le_of_ble_eq_true rfl)) dX11_join_104 ⟨Nat.le_of_ble_eq_true rfl, Nat.le_of_ble_eq_true rfl⟩) hS (fun q _ h => (A_all hD hA hS.1) q h) (A_all hD hA hS.1) (fun u_18 t_18 H_18 L_18 ht_18 hvm_18 hw_18 hB_18 hz_18 hk_18 hS => ?_)
    replace hB_18 := (show va_P (dC, dI) vwCl (offW a g) t_18.heap from hB_18)
    rw [ht_18] at hB_18
    have hP := hB_18
    refine lv_iconst (v := 1) hx hb dX11_join_107 (by decide) ?_
    exact W.zret (v := 1) hx hb hr rfl (fun t ht hW => ⟨⟨1, (), rfl, rfl, by rw [ht]; exact hP⟩, hS.F ht⟩) hS.2.2 dX11_join_108
set_option maxHeartbeats 4000000 in
set_option maxRecDepth 100000 in
theorem c_X11_combine (l : Launch) (hlf : l.stackTraces = false) (dC : Nat → ClassId) (dI : Nat → Nat → Nat) (g : Nat → ClassId) (a : Nat → Nat) (x : Int32) (y : Int32) (z : Int32) (k : Int32) (sz : Nat) : vx_Met l yX11_combine wsX11_combine ({ frames := 7, cells := 1, slots := 6, locals := 105 }) (va_Pc [.ref (a 0), .int x, .int y, .int z, .int k] (PG (dC, dI) g (offW a g) sz)) (va_Qi (fun (r : Int32) (_ : Unit) => (TOKb x && TOKb y && TOKb z) = true ∧ (rngb k 0 2) = true ∧ r = 0) (fun (_ : Unit) (_ : State) => True) (va_A (offW a g) sz)) (vx_X (fun _ : Unit => True) (fun E _ _ => (E = "java/lang/IndexOutOfBoundsException" ∧ (TOKb x && TOKb y && TOKb z) = false) ∨ (E = "java/lang/IllegalArgumentException" ∧ TOKb x && TOKb y && TOKb z = true ∧ (rngb k 0 2) = false)) (va_A (offW a g) sz)) 1 6 (va_A (offW a g) sz) := by
  refine vx_ofW (cc := cX11_combine) (maxL := 8) (ret := (some .int)) (by decide) rfl ?_
  intro p e s m args below meth c s₁ B hml hno hv
  obtain ⟨rfl, hsz, hP, hK, hD0, hG⟩ := hv
  have hx := B.exec
  have hb := B.bytes
  have hr := B.returns
  have hts := atoms_spec (ws := wsX11_combine) B.pre
  have hown : s.vm.findClass RX11 = some m.cls := findClass_of_methodNamed B.named
  have hlocks := B.notSynchronized
  subst hsz
  have hD := hD0.self (sz := s.heap.size)
  generalize hAe : va_A (offW a g) s.heap.size = A at hD hG ⊢
  have hA : ∀ q : Nat, s.heap.size ≤ q → A q := fun q h => by rw [← hAe]; exact Or.inr h
  have hS : va_S A s.heap s.heap [] := va_S.rf
  have hl := lv_entry ([.ref (a 0), .int x, .int y, .int z, .int k]) (n := 8) (Nat.le_of_ble_eq_true rfl)
  rw [lg_entry_eq]
  generalize (lg_sl ([.ref (a 0), .int x, .int y, .int z, .int k]) ++ List.replicate (8 - (lg_sl ([.ref (a 0), .int x, .int y, .int z, .int k])).length) Slot.unset).toArray = ls at hl ⊢
  have hl : lv_has ls 8 [(0, .ref (a 0)), (1, .int x), (2, .int y), (3, .int z), (4, .int k)] := hl
  have hiX9 : ∀ w ∈ u_ws RX9 TX9 2, w ∈ wsX11_combine := by decide +kernel
  refine lv_aload_n hx hb dX11_combine_0 rfl (lv_at hl 0 rfl) ?_
  refine lv_iload_n hx hb dX11_combine_1 rfl (lv_at hl 1 rfl) ?_
  refine vx_callq (vx_runV (As := [.int x]) (rest := []) ⟨hx, hb, hml, hown, hts⟩ (c_X11_tapeOf l hlf dC dI g (offW a g) (a 0) (a 1) (a 4) (a 5) (a 6) (a 8) (a 9) (a 12) (a 16) (a 22) (a 43) (a 64) (a 69) 0 (va_up (va_up (va_up (va_up (va_up (va_up (va_up (va_up (fun _ => none) 0 (some (a 108))) 1 (some (a 109))) 2 (some (a 110))) 3 (some (a 111))) 4 (some (a 112))) 5 (some (a 113))) 6 (some (a 114))) 7 (some (a 115))) (fun j => a (108 + j)) x 0 (o_0 a g) 4 (o_4 a g) (tp_at a) s.heap.size) (cwV 1 hts gX11_combine_X11_tapeOf rfl rfl rfl (by decide +kernel) ⟨Nat.le_of_ble_eq_true rfl, Nat.le_of_ble_eq_true rfl⟩) ⟨PG_blind, va_recv hK hP (ci := 13) (q0 := 0) rfl (o_0 a g), PG_call hK hG hS hP hD (A_all hD hA hS.1)⟩ rfl rfl hl.1 rfl (lv_room (Nat.le_of_ble_eq_true rfl)) dX11_combine_2 ⟨Nat.le_of_ble_eq_true rfl, Nat.le_of_ble_eq_true rfl⟩) hS (fun q _ h => (A_all hD hA hS.1) q h) (A_all hD hA hS.1) (fun q _ h => (A_all hD hA hS.1) q h) (fun E ce q9 u t H1 locs1 ht hvm hp9 hB9 hz hk hS9 hce hcv hcl => ?_) (fun r_1 u_1 t_1 H_1 L_1 ht_1 hvm_1 hw_1 hB_1 hz_1 hk_1 hS => ?_)
  · exact vx_out (fun x hx => (hno x hx).elim) hlocks hce hcv hcl (fun t ht hW => ⟨(), trivial, (by have h9 : E = "java/lang/IndexOutOfBoundsException" ∧ TOKb x = false := hB9; exact (Or.inl ⟨h9.1, by simp [h9.2]⟩)), hS9.F ht⟩) hS9.2.2 (Nat.le_of_ble_eq_true rfl) (Nat.le_of_ble_eq_true rfl)
  replace hB_1 := (show va_P (dC, dI) vwCl (offW a g) t_1.heap from hB_1)
  rw [ht_1] at hB_1
  have hP := hB_1
  obtain ⟨j_1, hj_1, ex_1, rfl⟩ := hw_1
  have w_1 := o_tape a g j_1 hj_1
  refine lv_astore (lv' := [(5, .ref (a (108 + j_1))), (0, .ref (a 0)), (1, .int x), (2, .int y), (3, .int z), (4, .int k)]) hx hb dX11_combine_5 hl (by decide) rfl (fun ls hl => ?_)
  refine lv_aload_n hx hb dX11_combine_7 rfl (lv_at hl 1 rfl) ?_
  refine lv_iload_n hx hb dX11_combine_8 rfl (lv_at hl 3 rfl) ?_
  refine vx_callq (vx_runV (As := [.int y]) (rest := []) ⟨hx, hb, hml, hown, hts⟩ (c_X11_tapeOf l hlf dC dI g (offW a g) (a 0) (a 1) (a 4) (a 5) (a 6) (a 8) (a 9) (a 12) (a 16) (a 22) (a 43) (a 64) (a 69) 0 (va_up (va_up (va_up (va_up (va_up (va_up (va_up (va_up (fun _ => none) 0 (some (a 108))) 1 (some (a 109))) 2 (some (a 110))) 3 (some (a 111))) 4 (some (a 112))) 5 (some (a 113))) 6 (some (a 114))) 7 (some (a 115))) (fun j => a (108 + j)) y 0 (o_0 a g) 4 (o_4 a g) (tp_at a) H_1.size) (cwV 1 hts gX11_combine_X11_tapeOf rfl rfl rfl (by decide +kernel) ⟨Nat.le_of_ble_eq_true rfl, Nat.le_of_ble_eq_true rfl⟩) ⟨PG_blind, va_recv hK hP (ci := 13) (q0 := 0) rfl (o_0 a g), PG_call hK hG hS hP hD (A_all hD hA hS.1)⟩ rfl rfl hl.1 rfl (lv_room (Nat.le_of_ble_eq_true rfl)) dX11_combine_9 ⟨Nat.le_of_ble_eq_true rfl, Nat.le_of_ble_eq_true rfl⟩) hS (fun q _ h => (A_all hD hA hS.1) q h) (A_all hD hA hS.1) (fun q _ h => (A_all hD hA hS.1) q h) (fun E ce q9 u t H1 locs1 ht hvm hp9 hB9 hz hk hS9 hce hcv hcl => ?_) (fun r_2 u_2 t_2 H_2 L_2 ht_2 hvm_2 hw_2 hB_2 hz_2 hk_2 hS => ?_)
  · exact vx_out (fun x hx => (hno x hx).elim) hlocks hce hcv hcl (fun t ht hW => ⟨(), trivial, (by have h9 : E = "java/lang/IndexOutOfBoundsException" ∧ TOKb y = false := hB9; exact (Or.inl ⟨h9.1, by simp [h9.2]⟩)), hS9.F ht⟩) hS9.2.2 (Nat.le_of_ble_eq_true rfl) (Nat.le_of_ble_eq_true rfl)
  replace hB_2 := (show va_P (dC, dI) vwCl (offW a g) t_2.heap from hB_2)
  rw [ht_2] at hB_2
  have hP := hB_2
  obtain ⟨j_2, hj_2, ex_2, rfl⟩ := hw_2
  have w_2 := o_tape a g j_2 hj_2
  refine lv_astore (lv' := [(6, .ref (a (108 + j_2))), (5, .ref (a (108 + j_1))), (0, .ref (a 0)), (1, .int x), (2, .int y), (3, .int z), (4, .int k)]) hx hb dX11_combine_12 hl (by decide) rfl (fun ls hl => ?_)
  refine lv_aload_n hx hb dX11_combine_14 rfl (lv_at hl 2 rfl) ?_
  refine lv_iload_n hx hb dX11_combine_15 rfl (lv_at hl 5 rfl) ?_
  refine vx_callq (vx_runV (As := [.int z]) (rest := []) ⟨hx, hb, hml, hown, hts⟩ (c_X11_tapeOf l hlf dC dI g (offW a g) (a 0) (a 1) (a 4) (a 5) (a 6) (a 8) (a 9) (a 12) (a 16) (a 22) (a 43) (a 64) (a 69) 0 (va_up (va_up (va_up (va_up (va_up (va_up (va_up (va_up (fun _ => none) 0 (some (a 108))) 1 (some (a 109))) 2 (some (a 110))) 3 (some (a 111))) 4 (some (a 112))) 5 (some (a 113))) 6 (some (a 114))) 7 (some (a 115))) (fun j => a (108 + j)) z 0 (o_0 a g) 4 (o_4 a g) (tp_at a) H_2.size) (cwV 1 hts gX11_combine_X11_tapeOf rfl rfl rfl (by decide +kernel) ⟨Nat.le_of_ble_eq_true rfl, Nat.le_of_ble_eq_true rfl⟩) ⟨PG_blind, va_recv hK hP (ci := 13) (q0 := 0) rfl (o_0 a g), PG_call hK hG hS hP hD (A_all hD hA hS.1)⟩ rfl rfl hl.1 rfl (lv_room (Nat.le_of_ble_eq_true rfl)) dX11_combine_16 ⟨Nat.le_of_ble_eq_true rfl, Nat.le_of_ble_eq_true rfl⟩) hS (fun q _ h => (A_all hD hA hS.1) q h) (A_all hD hA hS.1) (fun q _ h => (A_all hD hA hS.1) q h) (fun E ce q9 u t H1 locs1 ht hvm hp9 hB9 hz hk hS9 hce hcv hcl => ?_) (fun r_3 u_3 t_3 H_3 L_3 ht_3 hvm_3 hw_3 hB_3 hz_3 hk_3 hS => ?_)
  · exact vx_out (fun x hx => (hno x hx).elim) hlocks hce hcv hcl (fun t ht hW => ⟨(), trivial, (by have h9 : E = "java/lang/IndexOutOfBoundsException" ∧ TOKb z = false := hB9; exact (Or.inl ⟨h9.1, by simp [h9.2]⟩)), hS9.F ht⟩) hS9.2.2 (Nat.le_of_ble_eq_true rfl) (Nat.le_of_ble_eq_true rfl)
  replace hB_3 := (show va_P (dC, dI) vwCl (offW a g) t_3.heap from hB_3)
  rw [ht_3] at hB_3
  have hP := hB_3
  obtain ⟨j_3, hj_3, ex_3, rfl⟩ := hw_3
  have w_3 := o_tape a g j_3 hj_3
  refine lv_astore (lv' := [(7, .ref (a (108 + j_3))), (6, .ref (a (108 + j_2))), (5, .ref (a (108 + j_1))), (0, .ref (a 0)), (1, .int x), (2, .int y), (3, .int z), (4, .int k)]) hx hb dX11_combine_19 hl (by decide) rfl (fun ls hl => ?_)
  refine lv_aload_n hx hb dX11_combine_21 rfl (lv_at hl 3 rfl) ?_
  refine lv_iload hx hb dX11_combine_22 (lv_at hl 7 rfl) ?_
  refine lv_iconst (v := 0) hx hb dX11_combine_24 (by decide) ?_
  refine lv_iconst (v := 2) hx hb dX11_combine_25 (by decide) ?_
  refine vx_callv (vx_runV (As := [.int k, .int 0, .int 2]) (rest := []) ⟨hx, hb, hml, hown, hts⟩ (c_X11_demandRange l hlf dC dI g (offW a g) (a 0) k 0 2   H_3.size) (cwV 3 hts gX11_combine_X11_demandRange rfl rfl rfl (by decide +kernel) ⟨Nat.le_of_ble_eq_true rfl, Nat.le_of_ble_eq_true rfl⟩) ⟨PG_blind, va_recv hK hP (ci := 13) (q0 := 0) rfl (o_0 a g), PG_call hK hG hS hP hD (A_all hD hA hS.1)⟩ rfl rfl hl.1 rfl (lv_room (Nat.le_of_ble_eq_true rfl)) dX11_combine_26 ⟨Nat.le_of_ble_eq_true rfl, Nat.le_of_ble_eq_true rfl⟩) hS (fun q _ h => (A_all hD hA hS.1) q h) (A_all hD hA hS.1) (fun q _ h => (A_all hD hA hS.1) q h) (fun E ce q9 u t H1 locs1 ht hvm hp9 hB9 hz hk hS9 hce hcv hcl => ?_) (fun u_4 t_4 H_4 L_4 ht_4 hvm_4 hw_4 hB_4 hz_4 hk_4 hS => ?_)
  · exact vx_out (fun x hx => (hno x hx).elim) hlocks hce hcv hcl (fun t ht hW => ⟨(), trivial, (by have h9 : E = "java/lang/IllegalArgumentException" ∧ rngb k 0 2 = false := hB9; exact (Or.inr ⟨h9.1, by simp [TOK_j hj_1 ex_1, TOK_j hj_2 ex_2, TOK_j hj_3 ex_3], by simp [h9.2]⟩)), hS9.F ht⟩) hS9.2.2 (Nat.le_of_ble_eq_true rfl) (Nat.le_of_ble_eq_true rfl)
  replace hB_4 := (show va_P (dC, dI) vwCl (offW a g) t_4.heap from hB_4)
  rw [ht_4] at hB_4
  have hP := hB_4
  refine lv_aload_n hx hb dX11_combine_29 rfl (lv_at hl 3 rfl) ?_
  refine lv_aload hx hb dX11_combine_30 (lv_at hl 2 rfl) ?_
  refine lv_aload hx hb dX11_combine_32 (lv_at hl 1 rfl) ?_
  refine lv_aload hx hb dX11_combine_34 (lv_at hl 0 rfl) ?_
  refine lv_iload hx hb dX11_combine_36 (lv_at hl 7 rfl) ?_
  refine va_calli (va_runV (As := [.ref (a (108 + j_1)), .ref (a (108 + j_2)), .ref (a (108 + j_3)), .int k]) (rest := []) ⟨hx, hb, hml, hown, hts⟩ (c_X11_join l dC dI g a (a (108 + j_1)) (a (116 + j_1)) (a (108 + j_2)) (a (116 + j_2)) (a (108 + j_3)) (a (116 + j_3)) k (108 + j_1) (108 + j_2) (108 + j_3) w_1 w_2 w_3 H_4.size) (cwV 4 hts gX11_combine_X11_join rfl rfl rfl (by decide +kernel) ⟨Nat.le_of_ble_eq_true rfl, Nat.le_of_ble_eq_true rfl⟩) ⟨PG_blind, va_recv hK hP (ci := 13) (q0 := 0) rfl (o_0 a g), PG_call hK hG hS hP hD (A_all hD hA hS.1)⟩ rfl rfl hl.1 rfl (lv_room (Nat.le_of_ble_eq_true rfl)) dX11_combine_38 ⟨Nat.le_of_ble_eq_true rfl, Nat.le_of_ble_eq_true rfl⟩) hS (fun q _ h => (A_all hD hA hS.1) q h) (A_all hD hA hS.1) (fun r_5 u_5 t_5 H_5 L_5 ht_5 hvm_5 hw_5 hB_5 hz_5 hk_5 hS => ?_)
  replace hB_5 := (show va_P (dC, dI) vwCl (offW a g) t_5.heap from hB_5)
  rw [ht_5] at hB_5
  have hP := hB_5
  obtain rfl : r_5 = 1 := hw_5
  refine lv_if_ne (tgt := 55) hx hb dX11_combine_41 (by decide) (fun c_6 => ?_) (fun c_6 => absurd c_6 (by decide))
  refine lv_aload hx hb dX11_combine_55 (lv_at hl 0 rfl) ?_
  refine va_getN (D := (dC, dI)) (ci := 11) (v := .int 0) (C := RX9) (T := TX9) (N := 2) hx hb hts hiX9 hown hK hP (108 + j_3) w_3 rfl 1 (by decide) (nf_3 hG) (fun _ h9 => h9) rfl dX11_combine_57 ?_
  refine W.widen (k := 1) (n := 6) (by omega) (by omega) ?_
  refine vx_ret ?_
  exact W.iret (v := 0) hx hb hr (fun t ht hW => ⟨⟨0, (), rfl, ⟨by simp [TOK_j hj_1 ex_1, TOK_j hj_2 ex_2, TOK_j hj_3 ex_3, hw_4], by simp [TOK_j hj_1 ex_1, TOK_j hj_2 ex_2, TOK_j hj_3 ex_3, hw_4], rfl⟩, trivial⟩, hS.F ht⟩) hS.2.2 dX11_combine_60
