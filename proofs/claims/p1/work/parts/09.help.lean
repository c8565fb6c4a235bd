theorem dX11_demandRange_0 : decode cX11_demandRange 0 = .ok (.iload_n 1, 1) := by decide +kernel
theorem dX11_demandRange_1 : decode cX11_demandRange 1 = .ok (.iload_n 2, 1) := by decide +kernel
theorem dX11_demandRange_2 : decode cX11_demandRange 2 = .ok (.if_icmp .lt 8, 3) := by decide +kernel
theorem dX11_demandRange_10 : decode cX11_demandRange 10 = .ok (.new 109, 3) := by decide +kernel
theorem dX11_demandRange_13 : decode cX11_demandRange 13 = .ok (.dup, 1) := by decide +kernel
theorem dX11_demandRange_14 : decode cX11_demandRange 14 = .ok (.ldc_w 351, 3) := by decide +kernel
theorem dX11_demandRange_17 : decode cX11_demandRange 17 = .ok (.invokespecial 113, 3) := by decide +kernel
theorem dX11_demandRange_20 : decode cX11_demandRange 20 = .ok (.athrow, 1) := by decide +kernel
theorem dX11_demandRange_5 : decode cX11_demandRange 5 = .ok (.iload_n 1, 1) := by decide +kernel
theorem dX11_demandRange_6 : decode cX11_demandRange 6 = .ok (.iload_n 3, 1) := by decide +kernel
theorem dX11_demandRange_7 : decode cX11_demandRange 7 = .ok (.if_icmp .le 14, 3) := by decide +kernel
theorem dX11_demandRange_21 : decode cX11_demandRange 21 = .ok (.return_, 1) := by decide +kernel
theorem dX11_tapeOf_0 : decode cX11_tapeOf 0 = .ok (.iload_n 1, 1) := by decide +kernel
theorem dX11_tapeOf_1 : decode cX11_tapeOf 1 = .ok (.ifCond .lt 9, 3) := by decide +kernel
theorem dX11_tapeOf_10 : decode cX11_tapeOf 10 = .ok (.new 138, 3) := by decide +kernel
theorem dX11_tapeOf_13 : decode cX11_tapeOf 13 = .ok (.dup, 1) := by decide +kernel
theorem dX11_tapeOf_14 : decode cX11_tapeOf 14 = .ok (.ldc_w 341, 3) := by decide +kernel
theorem dX11_tapeOf_17 : decode cX11_tapeOf 17 = .ok (.invokespecial 142, 3) := by decide +kernel
theorem dX11_tapeOf_20 : decode cX11_tapeOf 20 = .ok (.athrow, 1) := by decide +kernel
theorem dX11_tapeOf_4 : decode cX11_tapeOf 4 = .ok (.iload_n 1, 1) := by decide +kernel
theorem dX11_tapeOf_5 : decode cX11_tapeOf 5 = .ok (.bipush 8, 2) := by decide +kernel
theorem dX11_tapeOf_7 : decode cX11_tapeOf 7 = .ok (.if_icmp .lt 14, 3) := by decide +kernel
theorem dX11_tapeOf_21 : decode cX11_tapeOf 21 = .ok (.aload_n 0, 1) := by decide +kernel
theorem dX11_tapeOf_22 : decode cX11_tapeOf 22 = .ok (.getfield 18, 3) := by decide +kernel
theorem dX11_tapeOf_25 : decode cX11_tapeOf 25 = .ok (.iload_n 1, 1) := by decide +kernel
theorem dX11_tapeOf_26 : decode cX11_tapeOf 26 = .ok (.aaload, 1) := by decide +kernel
theorem dX11_tapeOf_27 : decode cX11_tapeOf 27 = .ok (.areturn, 1) := by decide +kernel
set_option maxHeartbeats 4000000 in
set_option maxRecDepth 100000 in
theorem c_X11_demandRange (l : Launch) (hlf : l.stackTraces = false) (dC : Nat → ClassId) (dI : Nat → Nat → Nat) (g : Nat → ClassId) (Wd : va_W) (t : Nat) (v : Int32) (lo : Int32) (hi : Int32) (sz : Nat) : vx_Met l yX11_demandRange wsX11_demandRange ({ frames := 6, cells := 1, slots := 6, locals := 82 }) (va_Pc [.ref t, .int v, .int lo, .int hi] (PG (dC, dI) g Wd sz)) (va_Qv (fun (_ : Unit) => rngb v lo hi = true) (fun (_ : Unit) t => va_P (dC, dI) vwCl Wd t.heap) (va_A Wd sz)) (vx_X (fun _ : Unit => True) (fun E _ _ => E = "java/lang/IllegalArgumentException" ∧ rngb v lo hi = false) (va_A Wd sz)) 1 6 (va_A Wd sz) := by
  refine vx_ofW (cc := cX11_demandRange) (maxL := 4) (ret := none) (by decide) rfl ?_
  intro p e s m args below meth c s₁ B hml hno hv
  obtain ⟨rfl, hsz, hP, hK, hD0, hG⟩ := hv
  have hx := B.exec
  have hb := B.bytes
  have hr := B.returns
  have hts := atoms_spec (ws := wsX11_demandRange) B.pre
  have hown : s.vm.findClass RX11 = some m.cls := findClass_of_methodNamed B.named
  have hlocks := B.notSynchronized
  subst hsz
  have hD := hD0.self (sz := s.heap.size)
  generalize hAe : va_A Wd s.heap.size = A at hD hG ⊢
  have hA : ∀ q : Nat, s.heap.size ≤ q → A q := fun q h => by rw [← hAe]; exact Or.inr h
  have hS : va_S A s.heap s.heap [] := va_S.rf
  have hl := lv_entry ([.ref t, .int v, .int lo, .int hi]) (n := 4) (Nat.le_of_ble_eq_true rfl)
  rw [lg_entry_eq]
  generalize (lg_sl ([.ref t, .int v, .int lo, .int hi]) ++ List.replicate (4 - (lg_sl ([.ref t, .int v, .int lo, .int hi])).length) Slot.unset).toArray = ls at hl ⊢
  have hl : lv_has ls 4 [(0, .ref t), (1, .int v), (2, .int lo), (3, .int hi)] := hl
  have hcl109 := hts (Cond.classLink RX11 109 "java/lang/IllegalArgumentException") (by decide +kernel)
  have hini_IllegalArgumentException := hts (Cond.initialized "java/lang/IllegalArgumentException") (by decide +kernel)
  refine lv_iload_n hx hb dX11_demandRange_0 rfl (lv_at hl 1 rfl) ?_
  refine lv_iload_n hx hb dX11_demandRange_1 rfl (lv_at hl 2 rfl) ?_
  refine lv_icmp_lt (tgt := 10) hx hb dX11_demandRange_2 (by decide) (fun c_1 => ?_) (fun c_1 => ?_)
  · obtain ⟨sa, hsa⟩ := st_19 hG
    exact vx_throwSW hx hb hlf (own := RX11) (cls := "java/lang/IllegalArgumentException") (text := "a parameter is out of range") (names := ["java/lang/RuntimeException", "java/lang/Exception"]) (ik := 109) (is := 351) (ic := 113) hown rfl (by decide) hcl109 hini_IllegalArgumentException hsa (vx_hat (B := [.castable "java/lang/IllegalArgumentException" "java/lang/IllegalArgumentException", .declares (Bundle.initS "java/lang/RuntimeException"), .declares (Bundle.initS "java/lang/Exception"), .declares (Bundle.initS "java/lang/Throwable")]) (fun w h => hts w (List.mem_cons_of_mem _ (by first | exact List.mem_append_right _ h | exact List.mem_append_left _ (List.mem_append_right _ h) | exact List.mem_append_left _ (List.mem_append_left _ (List.mem_append_right _ h))))) (by decide +kernel) (vx_c (xc_1 hG) (vx_c (dc_0 hG) (vx_c (dc_1 hG) (vx_c (dc_2 hG) vx_n))))) (by decide +kernel) hG.2.2.2.1 hG.2.2.2.2.1 hS (hl.1.trans hml.symm) dX11_demandRange_10 dX11_demandRange_13 dX11_demandRange_14 dX11_demandRange_17 dX11_demandRange_20 (fun x hx => (hno x hx).elim) (Nat.le_of_ble_eq_true rfl) (Nat.le_of_ble_eq_true rfl) (Nat.le_of_ble_eq_true rfl) (Nat.le_of_ble_eq_true rfl) hlocks (fun t hW hz hk => ⟨(), trivial, ⟨rfl, rng_f (Or.inl c_1)⟩, F_of hS hz hk⟩) hS.2.2 (Nat.le_of_ble_eq_true rfl) (Nat.le_of_ble_eq_true rfl)
  · refine lv_iload_n hx hb dX11_demandRange_5 rfl (lv_at hl 1 rfl) ?_
    refine lv_iload_n hx hb dX11_demandRange_6 rfl (lv_at hl 3 rfl) ?_
    refine lv_icmp_le (tgt := 21) hx hb dX11_demandRange_7 (by decide) (fun c_2 => ?_) (fun c_2 => ?_)
    · refine W.widen (k := 1) (n := 6) (by omega) (by omega) ?_
      refine vx_ret ?_
      exact W.vret hx hb hr (fun t ht hW => ⟨⟨(), rfl, rng_t c_1 (i_nlt.mpr c_2), P_at ht hP⟩, hS.F ht⟩) hS.2.2 dX11_demandRange_21
    · obtain ⟨sa, hsa⟩ := st_19 hG
      exact vx_throwSW hx hb hlf (own := RX11) (cls := "java/lang/IllegalArgumentException") (text := "a parameter is out of range") (names := ["java/lang/RuntimeException", "java/lang/Exception"]) (ik := 109) (is := 351) (ic := 113) hown rfl (by decide) hcl109 hini_IllegalArgumentException hsa (vx_hat (B := [.castable "java/lang/IllegalArgumentException" "java/lang/IllegalArgumentException", .declares (Bundle.initS "java/lang/RuntimeException"), .declares (Bundle.initS "java/lang/Exception"), .declares (Bundle.initS "java/lang/Throwable")]) (fun w h => hts w (List.mem_cons_of_mem _ (by first | exact List.mem_append_right _ h | exact List.mem_append_left _ (List.mem_append_right _ h) | exact List.mem_append_left _ (List.mem_append_left _ (List.mem_append_right _ h))))) (by decide +kernel) (vx_c (xc_1 hG) (vx_c (dc_0 hG) (vx_c (dc_1 hG) (vx_c (dc_2 hG) vx_n))))) (by decide +kernel) hG.2.2.2.1 hG.2.2.2.2.1 hS (hl.1.trans hml.symm) dX11_demandRange_10 dX11_demandRange_13 dX11_demandRange_14 dX11_demandRange_17 dX11_demandRange_20 (fun x hx => (hno x hx).elim) (Nat.le_of_ble_eq_true rfl) (Nat.le_of_ble_eq_true rfl) (Nat.le_of_ble_eq_true rfl) (Nat.le_of_ble_eq_true rfl) hlocks (fun t hW hz hk => ⟨(), trivial, ⟨rfl, rng_f (Or.inr (i_nle.mp c_2))⟩, F_of hS hz hk⟩) hS.2.2 (Nat.le_of_ble_eq_true rfl) (Nat.le_of_ble_eq_true rfl)
set_option maxHeartbeats 4000000 in
set_option maxRecDepth 100000 in
theorem c_X11_tapeOf (l : Launch) (hlf : l.stackTraces = false) (dC : Nat → ClassId) (dI : Nat → Nat → Nat) (g : Nat → ClassId) (Wd : va_W) (o : Nat) (f0 : Nat) (f1 : Nat) (f2 : Nat) (f3 : Nat) (f4 : Nat) (f5 : Nat) (f6 : Nat) (f7 : Nat) (f8 : Nat) (f9 : Nat) (f10 : Nat) (f11 : Nat) (hj : Int32) (tf : Nat → Option Nat) (tp : Nat → Nat) (x : Int32) (k0 : Nat) (w0 : Wd[k0]? = some (o, .inr (13, [.ref f0, .ref f1, .ref f2, .ref f3, .ref f4, .ref f5, .ref f6, .ref f7, .ref f8, .ref f9, .ref f10, .ref f11, .int hj]))) (k1 : Nat) (w1 : Wd[k1]? = some (f1, .inl (g 1, 8, .inr (.inr (.inr (.inr tf)))))) (htf : ∀ j, j < 8 → tf j = some (tp j)) (sz : Nat) : vx_Met l yX11_tapeOf wsX11_tapeOf ({ frames := 6, cells := 1, slots := 6, locals := 82 }) (va_Pc [.ref o, .int x] (PG (dC, dI) g Wd sz)) (va_Qq (fun (r : Option Nat) (_ : Unit) => ∃ j, j < 8 ∧ x = nI j ∧ r = some (tp j)) (fun (_ : Unit) t => va_P (dC, dI) vwCl Wd t.heap) (va_A Wd sz)) (vx_X (fun _ : Unit => True) (fun E _ _ => E = "java/lang/IndexOutOfBoundsException" ∧ TOKb x = false) (va_A Wd sz)) 1 6 (va_A Wd sz) := by
  refine vx_ofW (cc := cX11_tapeOf) (maxL := 2) (ret := (some (.object "RunmergeOffice$Tape"))) (by decide) rfl ?_
  intro p e s m args below meth c s₁ B hml hno hv
  obtain ⟨rfl, hsz, hP, hK, hD0, hG⟩ := hv
  have hx := B.exec
  have hb := B.bytes
  have hr := B.returns
  have hts := atoms_spec (ws := wsX11_tapeOf) B.pre
  have hown : s.vm.findClass RX11 = some m.cls := findClass_of_methodNamed B.named
  have hlocks := B.notSynchronized
  subst hsz
  have hD := hD0.self (sz := s.heap.size)
  generalize hAe : va_A Wd s.heap.size = A at hD hG ⊢
  have hA : ∀ q : Nat, s.heap.size ≤ q → A q := fun q h => by rw [← hAe]; exact Or.inr h
  have hS : va_S A s.heap s.heap [] := va_S.rf
  have hl := lv_entry ([.ref o, .int x]) (n := 2) (Nat.le_of_ble_eq_true rfl)
  rw [lg_entry_eq]
  generalize (lg_sl ([.ref o, .int x]) ++ List.replicate (2 - (lg_sl ([.ref o, .int x])).length) Slot.unset).toArray = ls at hl ⊢
  have hl : lv_has ls 2 [(0, .ref o), (1, .int x)] := hl
  have hcl138 := hts (Cond.classLink RX11 138 "java/lang/IndexOutOfBoundsException") (by decide +kernel)
  have hini_IndexOutOfBoundsException := hts (Cond.initialized "java/lang/IndexOutOfBoundsException") (by decide +kernel)
  have hf18 := hts (Cond.fieldLink RX11 18 "RunmergeOffice" "tapes" "[LRunmergeOffice$Tape;") (by decide +kernel)
  have hiX11 : ∀ w ∈ u_ws RX11 TX11 13, w ∈ wsX11_tapeOf := by decide +kernel
  refine lv_iload_n hx hb dX11_tapeOf_0 rfl (lv_at hl 1 rfl) ?_
  refine lv_if_lt (tgt := 10) hx hb dX11_tapeOf_1 (by decide) (fun c_1 => ?_) (fun c_1 => ?_)
  · obtain ⟨sa, hsa⟩ := st_18 hG
    exact vx_throwSW hx hb hlf (own := RX11) (cls := "java/lang/IndexOutOfBoundsException") (text := "there is no such tape") (names := ["java/lang/RuntimeException", "java/lang/Exception"]) (ik := 138) (is := 341) (ic := 142) hown rfl (by decide) hcl138 hini_IndexOutOfBoundsException hsa (vx_hat (B := [.castable "java/lang/IndexOutOfBoundsException" "java/lang/IndexOutOfBoundsException", .declares (Bundle.initS "java/lang/RuntimeException"), .declares (Bundle.initS "java/lang/Exception"), .declares (Bundle.initS "java/lang/Throwable")]) (fun w h => hts w (List.mem_cons_of_mem _ (by first | exact List.mem_append_right _ h | exact List.mem_append_left _ (List.mem_append_right _ h) | exact List.mem_append_left _ (List.mem_append_left _ (List.mem_append_right _ h))))) (by decide +kernel) (vx_c (xc_0 hG) (vx_c (dc_0 hG) (vx_c (dc_1 hG) (vx_c (dc_2 hG) vx_n))))) (by decide +kernel) hG.2.2.2.1 hG.2.2.2.2.1 hS (hl.1.trans hml.symm) dX11_tapeOf_10 dX11_tapeOf_13 dX11_tapeOf_14 dX11_tapeOf_17 dX11_tapeOf_20 (fun x hx => (hno x hx).elim) (Nat.le_of_ble_eq_true rfl) (Nat.le_of_ble_eq_true rfl) (Nat.le_of_ble_eq_true rfl) (Nat.le_of_ble_eq_true rfl) hlocks (fun t hW hz hk => ⟨(), trivial, ⟨rfl, TOK_n c_1⟩, F_of hS hz hk⟩) hS.2.2 (Nat.le_of_ble_eq_true rfl) (Nat.le_of_ble_eq_true rfl)
  · refine lv_iload_n hx hb dX11_tapeOf_4 rfl (lv_at hl 1 rfl) ?_
    refine lv_bipush (v := 8) hx hb dX11_tapeOf_5 (by decide) ?_
    refine lv_icmp_lt (tgt := 21) hx hb dX11_tapeOf_7 (by decide) (fun c_2 => ?_) (fun c_2 => ?_)
    · refine lv_aload_n hx hb dX11_tapeOf_21 rfl (lv_at hl 0 rfl) ?_
      refine va_get (D := (dC, dI)) (ci := 13) (v := .ref f1) (C := RX11) (T := TX11) (N := 13) hx hb hts hiX11 hown hK hP k0 w0 rfl 1 (by decide) hf18 (fun _ h9 => h9) rfl dX11_tapeOf_22 ?_
      refine lv_iload_n hx hb dX11_tapeOf_25 rfl (lv_at hl 1 rfl) ?_
      obtain ⟨j9, hj9, ex9⟩ := TOK_ex (TOK_t c_1 c_2)
      refine va_aldq hx hb hK hP k1 1 w1 rfl (by rw [ex9]; exact vp_in_nI hj9 (by decide)) dX11_tapeOf_26 ?_
      rw [show x.toNatClampNeg = j9 from by rw [ex9]; exact nI_clamp (by omega), htf j9 hj9]
      refine W.eq (g2 := F0 m 27 ls [.ref (tp j9)]) rfl ?_
      refine W.widen (k := 1) (n := 6) (by omega) (by omega) ?_
      refine vx_ret ?_
      exact W.aret (v := .ref (tp j9)) hx hb hr (Or.inl ⟨_, rfl⟩) (Or.inr ⟨_, rfl⟩) (fun t ht hW => ⟨⟨some (tp j9), (), rfl, ⟨j9, hj9, ex9, rfl⟩, P_at ht hP⟩, hS.F ht⟩) hS.2.2 dX11_tapeOf_27
    · obtain ⟨sa, hsa⟩ := st_18 hG
      exact vx_throwSW hx hb hlf (own := RX11) (cls := "java/lang/IndexOutOfBoundsException") (text := "there is no such tape") (names := ["java/lang/RuntimeException", "java/lang/Exception"]) (ik := 138) (is := 341) (ic := 142) hown rfl (by decide) hcl138 hini_IndexOutOfBoundsException hsa (vx_hat (B := [.castable "java/lang/IndexOutOfBoundsException" "java/lang/IndexOutOfBoundsException", .declares (Bundle.initS "java/lang/RuntimeException"), .declares (Bundle.initS "java/lang/Exception"), .declares (Bundle.initS "java/lang/Throwable")]) (fun w h => hts w (List.mem_cons_of_mem _ (by first | exact List.mem_append_right _ h | exact List.mem_append_left _ (List.mem_append_right _ h) | exact List.mem_append_left _ (List.mem_append_left _ (List.mem_append_right _ h))))) (by decide +kernel) (vx_c (xc_0 hG) (vx_c (dc_0 hG) (vx_c (dc_1 hG) (vx_c (dc_2 hG) vx_n))))) (by decide +kernel) hG.2.2.2.1 hG.2.2.2.2.1 hS (hl.1.trans hml.symm) dX11_tapeOf_10 dX11_tapeOf_13 dX11_tapeOf_14 dX11_tapeOf_17 dX11_tapeOf_20 (fun x hx => (hno x hx).elim) (Nat.le_of_ble_eq_true rfl) (Nat.le_of_ble_eq_true rfl) (Nat.le_of_ble_eq_true rfl) (Nat.le_of_ble_eq_true rfl) hlocks (fun t hW hz hk => ⟨(), trivial, ⟨rfl, TOK_8 c_2⟩, F_of hS hz hk⟩) hS.2.2 (Nat.le_of_ble_eq_true rfl) (Nat.le_of_ble_eq_true rfl)
