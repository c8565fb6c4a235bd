theorem dX0_add_0 : decode cX0_add 0 = .ok (.aload_n 0, 1) := by decide +kernel
theorem dX0_add_1 : decode cX0_add 1 = .ok (.getfield 18, 3) := by decide +kernel
theorem dX0_add_4 : decode cX0_add 4 = .ok (.istore_n 3, 1) := by decide +kernel
theorem dX0_add_5 : decode cX0_add 5 = .ok (.iload_n 3, 1) := by decide +kernel
theorem dX0_add_6 : decode cX0_add 6 = .ok (.ifCond .lt 10, 3) := by decide +kernel
theorem dX0_add_9 : decode cX0_add 9 = .ok (.iload_n 3, 1) := by decide +kernel
theorem dX0_add_10 : decode cX0_add 10 = .ok (.sipush 200, 3) := by decide +kernel
theorem dX0_add_13 : decode cX0_add 13 = .ok (.if_icmp .lt 5, 3) := by decide +kernel
theorem dX0_add_18 : decode cX0_add 18 = .ok (.aload_n 0, 1) := by decide +kernel
theorem dX0_add_19 : decode cX0_add 19 = .ok (.getfield 9, 3) := by decide +kernel
theorem dX0_add_22 : decode cX0_add 22 = .ok (.iload_n 3, 1) := by decide +kernel
theorem dX0_add_23 : decode cX0_add 23 = .ok (.iload_n 1, 1) := by decide +kernel
theorem dX0_add_24 : decode cX0_add 24 = .ok (.iastore, 1) := by decide +kernel
theorem dX0_add_25 : decode cX0_add 25 = .ok (.aload_n 0, 1) := by decide +kernel
theorem dX0_add_26 : decode cX0_add 26 = .ok (.getfield 15, 3) := by decide +kernel
theorem dX0_add_29 : decode cX0_add 29 = .ok (.iload_n 3, 1) := by decide +kernel
theorem dX0_add_30 : decode cX0_add 30 = .ok (.iload_n 2, 1) := by decide +kernel
theorem dX0_add_31 : decode cX0_add 31 = .ok (.iastore, 1) := by decide +kernel
theorem dX0_add_32 : decode cX0_add 32 = .ok (.aload_n 0, 1) := by decide +kernel
theorem dX0_add_33 : decode cX0_add 33 = .ok (.iload_n 3, 1) := by decide +kernel
theorem dX0_add_34 : decode cX0_add 34 = .ok (.iconst 1, 1) := by decide +kernel
theorem dX0_add_35 : decode cX0_add 35 = .ok (.iadd, 1) := by decide +kernel
theorem dX0_add_36 : decode cX0_add 36 = .ok (.putfield 18, 3) := by decide +kernel
theorem dX0_add_39 : decode cX0_add 39 = .ok (.iload_n 3, 1) := by decide +kernel
theorem dX0_add_40 : decode cX0_add 40 = .ok (.ireturn, 1) := by decide +kernel
theorem dX9_add_0 : decode cX9_add 0 = .ok (.aload_n 0, 1) := by decide +kernel
theorem dX9_add_1 : decode cX9_add 1 = .ok (.getfield 15, 3) := by decide +kernel
theorem dX9_add_4 : decode cX9_add 4 = .ok (.ifCond .lt 32, 3) := by decide +kernel
theorem dX9_add_7 : decode cX9_add 7 = .ok (.aload_n 0, 1) := by decide +kernel
theorem dX9_add_8 : decode cX9_add 8 = .ok (.getfield 15, 3) := by decide +kernel
theorem dX9_add_11 : decode cX9_add 11 = .ok (.bipush 100, 2) := by decide +kernel
theorem dX9_add_13 : decode cX9_add 13 = .ok (.if_icmp .ge 23, 3) := by decide +kernel
theorem dX9_add_16 : decode cX9_add 16 = .ok (.aload_n 0, 1) := by decide +kernel
theorem dX9_add_17 : decode cX9_add 17 = .ok (.getfield 9, 3) := by decide +kernel
theorem dX9_add_20 : decode cX9_add 20 = .ok (.aload_n 0, 1) := by decide +kernel
theorem dX9_add_21 : decode cX9_add 21 = .ok (.getfield 15, 3) := by decide +kernel
theorem dX9_add_24 : decode cX9_add 24 = .ok (.iload_n 1, 1) := by decide +kernel
theorem dX9_add_25 : decode cX9_add 25 = .ok (.iastore, 1) := by decide +kernel
theorem dX9_add_26 : decode cX9_add 26 = .ok (.aload_n 0, 1) := by decide +kernel
theorem dX9_add_27 : decode cX9_add 27 = .ok (.dup, 1) := by decide +kernel
theorem dX9_add_28 : decode cX9_add 28 = .ok (.getfield 15, 3) := by decide +kernel
theorem dX9_add_31 : decode cX9_add 31 = .ok (.iconst 1, 1) := by decide +kernel
theorem dX9_add_32 : decode cX9_add 32 = .ok (.iadd, 1) := by decide +kernel
theorem dX9_add_33 : decode cX9_add 33 = .ok (.putfield 15, 3) := by decide +kernel
theorem dX9_add_36 : decode cX9_add 36 = .ok (.return_, 1) := by decide +kernel
theorem dX11_demandRoom_0 : decode cX11_demandRoom 0 = .ok (.aload_n 0, 1) := by decide +kernel
theorem dX11_demandRoom_1 : decode cX11_demandRoom 1 = .ok (.getfield 10, 3) := by decide +kernel
theorem dX11_demandRoom_4 : decode cX11_demandRoom 4 = .ok (.getfield 125, 3) := by decide +kernel
theorem dX11_demandRoom_7 : decode cX11_demandRoom 7 = .ok (.iload_n 2, 1) := by decide +kernel
theorem dX11_demandRoom_8 : decode cX11_demandRoom 8 = .ok (.iadd, 1) := by decide +kernel
theorem dX11_demandRoom_9 : decode cX11_demandRoom 9 = .ok (.sipush 200, 3) := by decide +kernel
theorem dX11_demandRoom_12 : decode cX11_demandRoom 12 = .ok (.if_icmp .gt 14, 3) := by decide +kernel
theorem dX11_demandRoom_15 : decode cX11_demandRoom 15 = .ok (.aload_n 1, 1) := by decide +kernel
theorem dX11_demandRoom_16 : decode cX11_demandRoom 16 = .ok (.getfield 105, 3) := by decide +kernel
theorem dX11_demandRoom_19 : decode cX11_demandRoom 19 = .ok (.iload_n 2, 1) := by decide +kernel
theorem dX11_demandRoom_20 : decode cX11_demandRoom 20 = .ok (.iadd, 1) := by decide +kernel
theorem dX11_demandRoom_21 : decode cX11_demandRoom 21 = .ok (.bipush 100, 2) := by decide +kernel
theorem dX11_demandRoom_23 : decode cX11_demandRoom 23 = .ok (.if_icmp .le 14, 3) := by decide +kernel
theorem dX11_demandRoom_37 : decode cX11_demandRoom 37 = .ok (.return_, 1) := by decide +kernel
theorem dX11_put_0 : decode cX11_put 0 = .ok (.aload_n 0, 1) := by decide +kernel
theorem dX11_put_1 : decode cX11_put 1 = .ok (.iload_n 1, 1) := by decide +kernel
set_option maxRecDepth 20000 in
theorem ggX11_put_X11_tapeOf : GoodIn wsX11_put wsX11_tapeOf := goodIn_ca (goodIn_r _ [6, 7, 8, 9, 37, 38, 39, 40, 41, 42, 43, 44, 45, 46, 47, 48, 49] (by decide +kernel) (by decide +kernel)) (goodIn_sub (fun _ h => List.mem_cons_of_mem _ (List.mem_append_left _ (List.mem_append_left _ (List.mem_append_right _ h)))) (by decide +kernel))
set_option maxRecDepth 20000 in
theorem gX11_put_X11_tapeOf : GoodIn wsX11_put (wsV RX11 86 RX11 yX11_tapeOf wsX11_tapeOf) := goodIn_app (goodIn_of _ (by decide +kernel)) ggX11_put_X11_tapeOf
theorem dX11_put_2 : decode cX11_put 2 = .ok (.invokevirtual 86, 3) := by decide +kernel
theorem dX11_put_5 : decode cX11_put 5 = .ok (.astore 4, 2) := by decide +kernel
theorem dX11_put_7 : decode cX11_put 7 = .ok (.aload_n 0, 1) := by decide +kernel
theorem dX11_put_8 : decode cX11_put 8 = .ok (.iload_n 2, 1) := by decide +kernel
theorem dX11_put_9 : decode cX11_put 9 = .ok (.sipush (-999), 3) := by decide +kernel
theorem dX11_put_12 : decode cX11_put 12 = .ok (.sipush 999, 3) := by decide +kernel
set_option maxRecDepth 20000 in
theorem ggX11_put_X11_demandRange : GoodIn wsX11_put wsX11_demandRange := goodIn_ca (goodIn_r _ [13, 14, 15] (by decide +kernel) (by decide +kernel)) (goodIn_sub (fun _ h => List.mem_cons_of_mem _ (List.mem_append_left _ (List.mem_append_right _ h))) (by decide +kernel))
set_option maxRecDepth 20000 in
theorem gX11_put_X11_demandRange : GoodIn wsX11_put (wsV RX11 90 RX11 yX11_demandRange wsX11_demandRange) := goodIn_app (goodIn_of _ (by decide +kernel)) ggX11_put_X11_demandRange
theorem dX11_put_15 : decode cX11_put 15 = .ok (.invokevirtual 90, 3) := by decide +kernel
theorem dX11_put_18 : decode cX11_put 18 = .ok (.aload_n 0, 1) := by decide +kernel
theorem dX11_put_19 : decode cX11_put 19 = .ok (.iload_n 3, 1) := by decide +kernel
theorem dX11_put_20 : decode cX11_put 20 = .ok (.iconst 0, 1) := by decide +kernel
theorem dX11_put_21 : decode cX11_put 21 = .ok (.sipush 9999, 3) := by decide +kernel
theorem dX11_put_24 : decode cX11_put 24 = .ok (.invokevirtual 90, 3) := by decide +kernel
theorem dX11_put_27 : decode cX11_put 27 = .ok (.aload_n 0, 1) := by decide +kernel
theorem dX11_put_28 : decode cX11_put 28 = .ok (.aload 4, 2) := by decide +kernel
theorem dX11_put_30 : decode cX11_put 30 = .ok (.iconst 1, 1) := by decide +kernel
set_option maxRecDepth 20000 in
theorem ggX11_put_X11_demandRoom : GoodIn wsX11_put wsX11_demandRoom := goodIn_ca (goodIn_r _ [19, 20, 21, 1, 37, 38, 39, 40, 41, 42, 43, 44, 45, 46, 47, 48, 49, 50, 51, 52, 53, 54] (by decide +kernel) (by decide +kernel)) (goodIn_sub (fun _ h => List.mem_cons_of_mem _ (List.mem_append_right _ h)) (by decide +kernel))
set_option maxRecDepth 20000 in
theorem gX11_put_X11_demandRoom : GoodIn wsX11_put (wsV RX11 94 RX11 yX11_demandRoom wsX11_demandRoom) := goodIn_app (goodIn_of _ (by decide +kernel)) ggX11_put_X11_demandRoom
theorem dX11_put_31 : decode cX11_put 31 = .ok (.invokevirtual 94, 3) := by decide +kernel
theorem dX11_put_34 : decode cX11_put 34 = .ok (.aload_n 0, 1) := by decide +kernel
theorem dX11_put_35 : decode cX11_put 35 = .ok (.getfield 10, 3) := by decide +kernel
theorem dX11_put_38 : decode cX11_put 38 = .ok (.iload_n 2, 1) := by decide +kernel
theorem dX11_put_39 : decode cX11_put 39 = .ok (.iload_n 3, 1) := by decide +kernel
set_option maxRecDepth 20000 in
theorem ggX11_put_X0_add : GoodIn wsX11_put wsX0_add := goodIn_r _ [26, 27, 28, 29, 50, 51, 52] (by decide +kernel) (by decide +kernel)
set_option maxRecDepth 20000 in
theorem gX11_put_X0_add : GoodIn wsX11_put (wsV RX11 98 RX0 yX0_add wsX0_add) := goodIn_app (goodIn_of _ (by decide +kernel)) ggX11_put_X0_add
theorem dX11_put_40 : decode cX11_put 40 = .ok (.invokevirtual 98, 3) := by decide +kernel
theorem dX11_put_43 : decode cX11_put 43 = .ok (.istore 5, 2) := by decide +kernel
theorem dX11_put_45 : decode cX11_put 45 = .ok (.aload 4, 2) := by decide +kernel
theorem dX11_put_47 : decode cX11_put 47 = .ok (.iload 5, 2) := by decide +kernel
set_option maxRecDepth 20000 in
theorem ggX11_put_X9_add : GoodIn wsX11_put wsX9_add := goodIn_r _ [34, 35, 36, 53, 54] (by decide +kernel) (by decide +kernel)
set_option maxRecDepth 20000 in
theorem gX11_put_X9_add : GoodIn wsX11_put (wsV RX11 102 RX9 yX9_add wsX9_add) := goodIn_app (goodIn_of _ (by decide +kernel)) ggX11_put_X9_add
theorem dX11_put_49 : decode cX11_put 49 = .ok (.invokevirtual 102, 3) := by decide +kernel
theorem dX11_put_52 : decode cX11_put 52 = .ok (.iload 5, 2) := by decide +kernel
theorem dX11_put_54 : decode cX11_put 54 = .ok (.ireturn, 1) := by decide +kernel
set_option maxHeartbeats 4000000 in
set_option maxRecDepth 100000 in
theorem c_X0_add (l : Launch) (dC : Nat → ClassId) (dI : Nat → Nat → Nat) (g : Nat → ClassId) (t : Nat) (k1 : Nat) (k2 : Nat) (i : Nat) (f1 : Nat → Int32) (f2 : Nat → Int32) (ky : Int32) (mk : Int32) (hi : i < 200) (sz : Nat) : Met l yX0_add wsX0_add ({ frames := 0, cells := 0, slots := 0, locals := 0 }) (va_Pc [.ref t, .int ky, .int mk] (PG (dC, dI) g [(t, .inr (2, [.ref k1, .ref k2, .int (nI i)])), (k1, .inl (g 0, 200, .inl f1)), (k2, .inl (g 0, 200, .inl f2))] sz)) (va_Qi (fun (r : Int32) (_ : Unit) => r = nI i) (fun (_ : Unit) t9 => va_P (dC, dI) vwCl [(t, .inr (2, [.ref k1, .ref k2, .int (nI (i + 1))])), (k1, .inl (g 0, 200, .inl (upd f1 (nI i).toNatClampNeg ky))), (k2, .inl (g 0, 200, .inl (upd f2 (nI i).toNatClampNeg mk)))] t9.heap ∧ va_D (va_A [(t, .inr (2, [.ref k1, .ref k2, .int (nI i)])), (k1, .inl (g 0, 200, .inl f1)), (k2, .inl (g 0, 200, .inl f2))] sz) [(t, .inr (2, [.ref k1, .ref k2, .int (nI (i + 1))])), (k1, .inl (g 0, 200, .inl (upd f1 (nI i).toNatClampNeg ky))), (k2, .inl (g 0, 200, .inl (upd f2 (nI i).toNatClampNeg mk)))]) (va_A [(t, .inr (2, [.ref k1, .ref k2, .int (nI i)])), (k1, .inl (g 0, 200, .inl f1)), (k2, .inl (g 0, 200, .inl f2))] sz)) 0 0 (va_A [(t, .inr (2, [.ref k1, .ref k2, .int (nI i)])), (k1, .inl (g 0, 200, .inl f1)), (k2, .inl (g 0, 200, .inl f2))] sz) := by
  refine Met.ofW (cc := cX0_add) (maxL := 4) (ret := (some .int)) (by decide) rfl ?_
  intro p e s m args below meth c s₁ B hml hv
  obtain ⟨rfl, hsz, hP, hK, hD0, hG⟩ := hv
  have hx := B.exec
  have hb := B.bytes
  have hr := B.returns
  have hts := atoms_spec (ws := wsX0_add) B.pre
  have hown : s.vm.findClass RX0 = some m.cls := findClass_of_methodNamed B.named
  have hlocks := B.notSynchronized
  subst hsz
  have hD := hD0.self (sz := s.heap.size)
  generalize hAe : va_A [(t, .inr (2, [.ref k1, .ref k2, .int (nI i)])), (k1, .inl (g 0, 200, .inl f1)), (k2, .inl (g 0, 200, .inl f2))] s.heap.size = A at hD hG ⊢
  have hA : ∀ q : Nat, s.heap.size ≤ q → A q := fun q h => by rw [← hAe]; exact Or.inr h
  have hS : va_S A s.heap s.heap [] := va_S.rf
  have hl := lv_entry ([.ref t, .int ky, .int mk]) (n := 4) (Nat.le_of_ble_eq_true rfl)
  rw [lg_entry_eq]
  generalize (lg_sl ([.ref t, .int ky, .int mk]) ++ List.replicate (4 - (lg_sl ([.ref t, .int ky, .int mk])).length) Slot.unset).toArray = ls at hl ⊢
  have hl : lv_has ls 4 [(0, .ref t), (1, .int ky), (2, .int mk)] := hl
  have hf18 := hts (Cond.fieldLink RX0 18 "RunmergeOffice$Book" "count" "I") (by decide +kernel)
  have hiX0 : ∀ w ∈ u_ws RX0 TX0 3, w ∈ wsX0_add := by decide +kernel
  have hf9 := hts (Cond.fieldLink RX0 9 "RunmergeOffice$Book" "allKeys" "[I") (by decide +kernel)
  have hf15 := hts (Cond.fieldLink RX0 15 "RunmergeOffice$Book" "allMarks" "[I") (by decide +kernel)
  refine lv_aload_n hx hb dX0_add_0 rfl (lv_at hl 0 rfl) ?_
  refine va_get (D := (dC, dI)) (ci := 2) (v := .int (nI i)) (C := RX0) (T := TX0) (N := 3) hx hb hts hiX0 hown hK hP 0 rfl rfl 2 (by decide) hf18 (fun _ h9 => h9) rfl dX0_add_1 ?_
  refine lv_istore_n (lv' := [(3, .int (nI i)), (0, .ref t), (1, .int ky), (2, .int mk)]) hx hb dX0_add_4 rfl hl (by decide) rfl (fun ls hl => ?_)
  refine lv_iload_n hx hb dX0_add_5 rfl (lv_at hl 0 rfl) ?_
  refine lv_if_lt (tgt := 16) hx hb dX0_add_6 (by decide) (fun c_1 => absurd c_1 (nI_pos (by omega))) (fun c_1 => ?_)
  refine lv_iload_n hx hb dX0_add_9 rfl (lv_at hl 0 rfl) ?_
  refine lv_sipush (v := 200) hx hb dX0_add_10 (by decide) ?_
  refine lv_icmp_lt (tgt := 18) hx hb dX0_add_13 (by decide) (fun c_2 => ?_) (fun c_2 => absurd (nI_lt (b := 200) hi (by decide)) c_2)
  refine lv_aload_n hx hb dX0_add_18 rfl (lv_at hl 1 rfl) ?_
  refine va_get (D := (dC, dI)) (ci := 2) (v := .ref k1) (C := RX0) (T := TX0) (N := 3) hx hb hts hiX0 hown hK hP 0 rfl rfl 0 (by decide) hf9 (fun _ h9 => h9) rfl dX0_add_19 ?_
  refine lv_iload_n hx hb dX0_add_22 rfl (lv_at hl 0 rfl) ?_
  refine lv_iload_n hx hb dX0_add_23 rfl (lv_at hl 2 rfl) ?_
  refine va_iast hx hb hK hP hD hS 1 0 rfl rfl (vp_in_nI hi (by decide)) dX0_add_24 (fun H_3 L_4 hP hD hS => ?_)
  have hP : va_P (dC, dI) vwCl [(t, .inr (2, [.ref k1, .ref k2, .int (nI i)])), (k1, .inl (g 0, 200, .inl (upd f1 (nI i).toNatClampNeg ky))), (k2, .inl (g 0, 200, .inl f2))] H_3 := hP
  have hD : va_D A [(t, .inr (2, [.ref k1, .ref k2, .int (nI i)])), (k1, .inl (g 0, 200, .inl (upd f1 (nI i).toNatClampNeg ky))), (k2, .inl (g 0, 200, .inl f2))] := hD
  refine lv_aload_n hx hb dX0_add_25 rfl (lv_at hl 1 rfl) ?_
  refine va_get (D := (dC, dI)) (ci := 2) (v := .ref k2) (C := RX0) (T := TX0) (N := 3) hx hb hts hiX0 hown hK hP 0 rfl rfl 1 (by decide) hf15 (fun _ h9 => h9) rfl dX0_add_26 ?_
  refine lv_iload_n hx hb dX0_add_29 rfl (lv_at hl 0 rfl) ?_
  refine lv_iload_n hx hb dX0_add_30 rfl (lv_at hl 3 rfl) ?_
  refine va_iast hx hb hK hP hD hS 2 0 rfl rfl (vp_in_nI hi (by decide)) dX0_add_31 (fun H_5 L_6 hP hD hS => ?_)
  have hP : va_P (dC, dI) vwCl [(t, .inr (2, [.ref k1, .ref k2, .int (nI i)])), (k1, .inl (g 0, 200, .inl (upd f1 (nI i).toNatClampNeg ky))), (k2, .inl (g 0, 200, .inl (upd f2 (nI i).toNatClampNeg mk)))] H_5 := hP
  have hD : va_D A [(t, .inr (2, [.ref k1, .ref k2, .int (nI i)])), (k1, .inl (g 0, 200, .inl (upd f1 (nI i).toNatClampNeg ky))), (k2, .inl (g 0, 200, .inl (upd f2 (nI i).toNatClampNeg mk)))] := hD
  refine lv_aload_n hx hb dX0_add_32 rfl (lv_at hl 1 rfl) ?_
  refine lv_iload_n hx hb dX0_add_33 rfl (lv_at hl 0 rfl) ?_
  refine lv_iconst (v := 1) hx hb dX0_add_34 (by decide) ?_
  refine lv_iadd hx hb dX0_add_35 ?_
  refine lv_topi (fun x_7 ex_7 => ?_)
  obtain rfl : x_7 = nI (i + 1) := ex_7.trans (nI_1 _)
  refine va_put (D := (dC, dI)) (ci := 2) (v := .int (nI (i + 1))) (ty := .int) (C := RX0) (T := TX0) (N := 3) hx hb hts hiX0 tyX0 tyX0_ok nmX0 hown hK hP hD hS 0 rfl rfl 2 (by decide) hf18 (fun _ h9 => h9) rfl (by decide +kernel) rfl rfl (Nat.le_of_ble_eq_true rfl) dX0_add_36 (fun H_8 L_9 hP hD hS => ?_)
  have hP : va_P (dC, dI) vwCl [(t, .inr (2, [.ref k1, .ref k2, .int (nI (i + 1))])), (k1, .inl (g 0, 200, .inl (upd f1 (nI i).toNatClampNeg ky))), (k2, .inl (g 0, 200, .inl (upd f2 (nI i).toNatClampNeg mk)))] H_8 := hP
  have hD : va_D A [(t, .inr (2, [.ref k1, .ref k2, .int (nI (i + 1))])), (k1, .inl (g 0, 200, .inl (upd f1 (nI i).toNatClampNeg ky))), (k2, .inl (g 0, 200, .inl (upd f2 (nI i).toNatClampNeg mk)))] := hD
  refine lv_iload_n hx hb dX0_add_39 rfl (lv_at hl 0 rfl) ?_
  have hP9 := hP.sub (ws' := [(t, .inr (2, [.ref k1, .ref k2, .int (nI (i + 1))])), (k1, .inl (g 0, 200, .inl (upd f1 (nI i).toNatClampNeg ky))), (k2, .inl (g 0, 200, .inl (upd f2 (nI i).toNatClampNeg mk)))]) [0, 1, 2] rfl
  have hD9 := hD.sub (ws' := [(t, .inr (2, [.ref k1, .ref k2, .int (nI (i + 1))])), (k1, .inl (g 0, 200, .inl (upd f1 (nI i).toNatClampNeg ky))), (k2, .inl (g 0, 200, .inl (upd f2 (nI i).toNatClampNeg mk)))]) [0, 1, 2] (by decide) rfl
  exact W.iret (v := (nI i)) hx hb hr (fun t ht hW => ⟨⟨(nI i), (), rfl, rfl, ⟨P_at ht hP9, hD9⟩⟩, hS.F ht⟩) hS.2.2 dX0_add_40
set_option maxHeartbeats 4000000 in
set_option maxRecDepth 100000 in
theorem c_X9_add (l : Launch) (dC : Nat → ClassId) (dI : Nat → Nat → Nat) (g : Nat → ClassId) (t : Nat) (h : Nat) (i : Nat) (f1 : Nat → Int32) (rc : Int32) (hi : i < 100) (sz : Nat) : Met l yX9_add wsX9_add ({ frames := 0, cells := 0, slots := 0, locals := 0 }) (va_Pc [.ref t, .int rc] (PG (dC, dI) g [(t, .inr (11, [.ref h, .int (nI i)])), (h, .inl (g 0, 100, .inl f1))] sz)) (va_Qv (fun (_ : Unit) => True) (fun (_ : Unit) t9 => va_P (dC, dI) vwCl [(t, .inr (11, [.ref h, .int (nI (i + 1))])), (h, .inl (g 0, 100, .inl (upd f1 (nI i).toNatClampNeg rc)))] t9.heap ∧ va_D (va_A [(t, .inr (11, [.ref h, .int (nI i)])), (h, .inl (g 0, 100, .inl f1))] sz) [(t, .inr (11, [.ref h, .int (nI (i + 1))])), (h, .inl (g 0, 100, .inl (upd f1 (nI i).toNatClampNeg rc)))]) (va_A [(t, .inr (11, [.ref h, .int (nI i)])), (h, .inl (g 0, 100, .inl f1))] sz)) 0 0 (va_A [(t, .inr (11, [.ref h, .int (nI i)])), (h, .inl (g 0, 100, .inl f1))] sz) := by
  refine Met.ofW (cc := cX9_add) (maxL := 2) (ret := none) (by decide) rfl ?_
  intro p e s m args below meth c s₁ B hml hv
  obtain ⟨rfl, hsz, hP, hK, hD0, hG⟩ := hv
  have hx := B.exec
  have hb := B.bytes
  have hr := B.returns
  have hts := atoms_spec (ws := wsX9_add) B.pre
  have hown : s.vm.findClass RX9 = some m.cls := findClass_of_methodNamed B.named
  have hlocks := B.notSynchronized
  subst hsz
  have hD := hD0.self (sz := s.heap.size)
  generalize hAe : va_A [(t, .inr (11, [.ref h, .int (nI i)])), (h, .inl (g 0, 100, .inl f1))] s.heap.size = A at hD hG ⊢
  have hA : ∀ q : Nat, s.heap.size ≤ q → A q := fun q h => by rw [← hAe]; exact Or.inr h
  have hS : va_S A s.heap s.heap [] := va_S.rf
  have hl := lv_entry ([.ref t, .int rc]) (n := 2) (Nat.le_of_ble_eq_true rfl)
  rw [lg_entry_eq]
  generalize (lg_sl ([.ref t, .int rc]) ++ List.replicate (2 - (lg_sl ([.ref t, .int rc])).length) Slot.unset).toArray = ls at hl ⊢
  have hl : lv_has ls 2 [(0, .ref t), (1, .int rc)] := hl
  have hf15 := hts (Cond.fieldLink RX9 15 "RunmergeOffice$Tape" "size" "I") (by decide +kernel)
  have hiX9 : ∀ w ∈ u_ws RX9 TX9 2, w ∈ wsX9_add := by decide +kernel
  have hf9 := hts (Cond.fieldLink RX9 9 "RunmergeOffice$Tape" "held" "[I") (by decide +kernel)
  refine lv_aload_n hx hb dX9_add_0 rfl (lv_at hl 0 rfl) ?_
  refine va_get (D := (dC, dI)) (ci := 11) (v := .int (nI i)) (C := RX9) (T := TX9) (N := 2) hx hb hts hiX9 hown hK hP 0 rfl rfl 1 (by decide) hf15 (fun _ h9 => h9) rfl dX9_add_1 ?_
  refine lv_if_lt (tgt := 36) hx hb dX9_add_4 (by decide) (fun c_1 => absurd c_1 (nI_pos (by omega))) (fun c_1 => ?_)
  refine lv_aload_n hx hb dX9_add_7 rfl (lv_at hl 0 rfl) ?_
  refine va_get (D := (dC, dI)) (ci := 11) (v := .int (nI i)) (C := RX9) (T := TX9) (N := 2) hx hb hts hiX9 hown hK hP 0 rfl rfl 1 (by decide) hf15 (fun _ h9 => h9) rfl dX9_add_8 ?_
  refine lv_bipush (v := 100) hx hb dX9_add_11 (by decide) ?_
  refine lv_icmp_ge (tgt := 36) hx hb dX9_add_13 (by decide) (fun c_2 => absurd c_2 (nI_ge (b := 100) hi (by decide))) (fun c_2 => ?_)
  refine lv_aload_n hx hb dX9_add_16 rfl (lv_at hl 0 rfl) ?_
  refine va_get (D := (dC, dI)) (ci := 11) (v := .ref h) (C := RX9) (T := TX9) (N := 2) hx hb hts hiX9 hown hK hP 0 rfl rfl 0 (by decide) hf9 (fun _ h9 => h9) rfl dX9_add_17 ?_
  refine lv_aload_n hx hb dX9_add_20 rfl (lv_at hl 0 rfl) ?_
  refine va_get (D := (dC, dI)) (ci := 11) (v := .int (nI i)) (C := RX9) (T := TX9) (N := 2) hx hb hts hiX9 hown hK hP 0 rfl rfl 1 (by decide) hf15 (fun _ h9 => h9) rfl dX9_add_21 ?_
  refine lv_iload_n hx hb dX9_add_24 rfl (lv_at hl 1 rfl) ?_
  refine va_iast hx hb hK hP hD hS 1 0 rfl rfl (vp_in_nI hi (by decide)) dX9_add_25 (fun H_3 L_4 hP hD hS => ?_)
  have hP : va_P (dC, dI) vwCl [(t, .inr (11, [.ref h, .int (nI i)])), (h, .inl (g 0, 100, .inl (upd f1 (nI i).toNatClampNeg rc)))] H_3 := hP
  have hD : va_D A [(t, .inr (11, [.ref h, .int (nI i)])), (h, .inl (g 0, 100, .inl (upd f1 (nI i).toNatClampNeg rc)))] := hD
  refine lv_aload_n hx hb dX9_add_26 rfl (lv_at hl 0 rfl) ?_
  refine lv_dup hx hb dX9_add_27 rfl ?_
  refine va_get (D := (dC, dI)) (ci := 11) (v := .int (nI i)) (C := RX9) (T := TX9) (N := 2) hx hb hts hiX9 hown hK hP 0 rfl rfl 1 (by decide) hf15 (fun _ h9 => h9) rfl dX9_add_28 ?_
  refine lv_iconst (v := 1) hx hb dX9_add_31 (by decide) ?_
  refine lv_iadd hx hb dX9_add_32 ?_
  refine lv_topi (fun x_5 ex_5 => ?_)
  obtain rfl : x_5 = nI (i + 1) := ex_5.trans (nI_1 _)
  refine va_put (D := (dC, dI)) (ci := 11) (v := .int (nI (i + 1))) (ty := .int) (C := RX9) (T := TX9) (N := 2) hx hb hts hiX9 tyX9 tyX9_ok nmX9 hown hK hP hD hS 0 rfl rfl 1 (by decide) hf15 (fun _ h9 => h9) rfl (by decide +kernel) rfl rfl (Nat.le_of_ble_eq_true rfl) dX9_add_33 (fun H_6 L_7 hP hD hS => ?_)
  have hP : va_P (dC, dI) vwCl [(t, .inr (11, [.ref h, .int (nI (i + 1))])), (h, .inl (g 0, 100, .inl (upd f1 (nI i).toNatClampNeg rc)))] H_6 := hP
  have hD : va_D A [(t, .inr (11, [.ref h, .int (nI (i + 1))])), (h, .inl (g 0, 100, .inl (upd f1 (nI i).toNatClampNeg rc)))] := hD
  have hP9 := hP.sub (ws' := [(t, .inr (11, [.ref h, .int (nI (i + 1))])), (h, .inl (g 0, 100, .inl (upd f1 (nI i).toNatClampNeg rc)))]) [0, 1] rfl
  have hD9 := hD.sub (ws' := [(t, .inr (11, [.ref h, .int (nI (i + 1))])), (h, .inl (g 0, 100, .inl (upd f1 (nI i).toNatClampNeg rc)))]) [0, 1] (by decide) rfl
  exact W.vret hx hb hr (fun t ht hW => ⟨⟨(), rfl, trivial, ⟨P_at ht hP9, hD9⟩⟩, hS.F ht⟩) hS.2.2 dX9_add_36
set_option maxHeartbeats 4000000 in
set_option maxRecDepth 100000 in
theorem c_X11_demandRoom (l : Launch) (dC : Nat → ClassId) (dI : Nat → Nat → Nat) (g : Nat → ClassId) (a : Nat → Nat) (t : Nat) (h : Nat) (p9 : Nat) (m9 : Int32) (q9 : (offW a g)[p9]? = some (t, .inr (11, [.ref h, .int 0]))) (hm : rngb m9 0 50 = true) (sz : Nat) : Met l yX11_demandRoom wsX11_demandRoom ({ frames := 0, cells := 0, slots := 0, locals := 0 }) (va_Pc [.ref (a 0), .ref t, .int m9] (PG (dC, dI) g (offW a g) sz)) (va_Qv (fun (_ : Unit) => True) (fun (_ : Unit) t => va_P (dC, dI) vwCl (offW a g) t.heap) (va_A (offW a g) sz)) 0 0 (va_A (offW a g) sz) := by
  refine Met.ofW (cc := cX11_demandRoom) (maxL := 3) (ret := none) (by decide) rfl ?_
  intro p e s m args below meth c s₁ B hml hv
  obtain ⟨rfl, hsz, hP, hK, hD0, hG⟩ := hv
  have hx := B.exec
  have hb := B.bytes
  have hr := B.returns
  have hts := atoms_spec (ws := wsX11_demandRoom) B.pre
  have hown : s.vm.findClass RX11 = some m.cls := findClass_of_methodNamed B.named
  have hlocks := B.notSynchronized
  subst hsz
  have hD := hD0.self (sz := s.heap.size)
  generalize hAe : va_A (offW a g) s.heap.size = A at hD hG ⊢
  have hA : ∀ q : Nat, s.heap.size ≤ q → A q := fun q h => by rw [← hAe]; exact Or.inr h
  have hS : va_S A s.heap s.heap [] := va_S.rf
  have hl := lv_entry ([.ref (a 0), .ref t, .int m9]) (n := 3) (Nat.le_of_ble_eq_true rfl)
  rw [lg_entry_eq]
  generalize (lg_sl ([.ref (a 0), .ref t, .int m9]) ++ List.replicate (3 - (lg_sl ([.ref (a 0), .ref t, .int m9])).length) Slot.unset).toArray = ls at hl ⊢
  have hl : lv_has ls 3 [(0, .ref (a 0)), (1, .ref t), (2, .int m9)] := hl
  have hf10 := hts (Cond.fieldLink RX11 10 "RunmergeOffice" "book" "LRunmergeOffice$Book;") (by decide +kernel)
  have hiX11 : ∀ w ∈ u_ws RX11 TX11 13, w ∈ wsX11_demandRoom := by decide +kernel
  have hiX0 : ∀ w ∈ u_ws RX0 TX0 3, w ∈ wsX11_demandRoom := by decide +kernel
  have hiX9 : ∀ w ∈ u_ws RX9 TX9 2, w ∈ wsX11_demandRoom := by decide +kernel
  refine lv_aload_n hx hb dX11_demandRoom_0 rfl (lv_at hl 0 rfl) ?_
  refine va_get (D := (dC, dI)) (ci := 13) (v := .ref (a 1)) (C := RX11) (T := TX11) (N := 13) hx hb hts hiX11 hown hK hP 0 (o_0 a g) rfl 0 (by decide) hf10 (fun _ h9 => h9) rfl dX11_demandRoom_1 ?_
  refine va_getN (D := (dC, dI)) (ci := 2) (v := .int 0) (C := RX0) (T := TX0) (N := 3) hx hb hts hiX0 hown hK hP 1 (o_1 a g) rfl 2 (by decide) (nf_0 hG) (fun _ h9 => h9) rfl dX11_demandRoom_4 ?_
  refine lv_iload_n hx hb dX11_demandRoom_7 rfl (lv_at hl 2 rfl) ?_
  refine lv_iadd hx hb dX11_demandRoom_8 ?_
  refine lv_topi (fun x_1 ex_1 => ?_)
  refine lv_sipush (v := 200) hx hb dX11_demandRoom_9 (by decide) ?_
  refine lv_icmp_gt (tgt := 26) hx hb dX11_demandRoom_12 (by decide) (fun c_2 => absurd c_2 (by rw [ex_1]; exact room_a hm)) (fun c_2 => ?_)
  refine lv_aload_n hx hb dX11_demandRoom_15 rfl (lv_at hl 1 rfl) ?_
  refine va_getN (D := (dC, dI)) (ci := 11) (v := .int 0) (C := RX9) (T := TX9) (N := 2) hx hb hts hiX9 hown hK hP p9 q9 rfl 1 (by decide) (nf_3 hG) (fun _ h9 => h9) rfl dX11_demandRoom_16 ?_
  refine lv_iload_n hx hb dX11_demandRoom_19 rfl (lv_at hl 2 rfl) ?_
  refine lv_iadd hx hb dX11_demandRoom_20 ?_
  refine lv_topi (fun x_3 ex_3 => ?_)
  refine lv_bipush (v := 100) hx hb dX11_demandRoom_21 (by decide) ?_
  refine lv_icmp_le (tgt := 37) hx hb dX11_demandRoom_23 (by decide) (fun c_4 => ?_) (fun c_4 => absurd (by rw [ex_3]; exact room_b hm) c_4)
  exact W.vret hx hb hr (fun t ht hW => ⟨⟨(), rfl, trivial, P_at ht hP⟩, hS.F ht⟩) hS.2.2 dX11_demandRoom_37
theorem off_put {D : va_G} {A : Nat → Prop} {H : Heap} (a : Nat → Nat) (g : Nat → ClassId) (j : Nat) (hj : j < 8) (hP : va_P D vwCl (offW a g) H) (hD : va_D A (offW a g)) : va_P D vwCl [((a 0), .inr (13, [.ref (a 1), .ref (a 4), .ref (a 5), .ref (a 6), .ref (a 8), .ref (a 9), .ref (a 12), .ref (a 16), .ref (a 22), .ref (a 43), .ref (a 64), .ref (a 69), .int 0])), ((a 1), .inr (2, [.ref (a 2), .ref (a 3), .int (nI 0)])), ((a 2), .inl (g 0, 200, .inl (fun _ => 0))), ((a 3), .inl (g 0, 200, .inl (fun _ => 0))), ((a (108 + j)), .inr (11, [.ref (a (116 + j)), .int (nI 0)])), ((a (116 + j)), .inl (g 0, 100, .inl (fun _ => 0)))] H ∧ va_D A [((a 0), .inr (13, [.ref (a 1), .ref (a 4), .ref (a 5), .ref (a 6), .ref (a 8), .ref (a 9), .ref (a 12), .ref (a 16), .ref (a 22), .ref (a 43), .ref (a 64), .ref (a 69), .int 0])), ((a 1), .inr (2, [.ref (a 2), .ref (a 3), .int (nI 0)])), ((a 2), .inl (g 0, 200, .inl (fun _ => 0))), ((a 3), .inl (g 0, 200, .inl (fun _ => 0))), ((a (108 + j)), .inr (11, [.ref (a (116 + j)), .int (nI 0)])), ((a (116 + j)), .inl (g 0, 100, .inl (fun _ => 0)))] := by
  match j, hj with
  | 0, _ => exact ⟨hP.sub [0, 1, 2, 3, 108, 116] rfl, hD.sub [0, 1, 2, 3, 108, 116] (by decide) rfl⟩
  | 1, _ => exact ⟨hP.sub [0, 1, 2, 3, 109, 117] rfl, hD.sub [0, 1, 2, 3, 109, 117] (by decide) rfl⟩
  | 2, _ => exact ⟨hP.sub [0, 1, 2, 3, 110, 118] rfl, hD.sub [0, 1, 2, 3, 110, 118] (by decide) rfl⟩
  | 3, _ => exact ⟨hP.sub [0, 1, 2, 3, 111, 119] rfl, hD.sub [0, 1, 2, 3, 111, 119] (by decide) rfl⟩
  | 4, _ => exact ⟨hP.sub [0, 1, 2, 3, 112, 120] rfl, hD.sub [0, 1, 2, 3, 112, 120] (by decide) rfl⟩
  | 5, _ => exact ⟨hP.sub [0, 1, 2, 3, 113, 121] rfl, hD.sub [0, 1, 2, 3, 113, 121] (by decide) rfl⟩
  | 6, _ => exact ⟨hP.sub [0, 1, 2, 3, 114, 122] rfl, hD.sub [0, 1, 2, 3, 114, 122] (by decide) rfl⟩
  | 7, _ => exact ⟨hP.sub [0, 1, 2, 3, 115, 123] rfl, hD.sub [0, 1, 2, 3, 115, 123] (by decide) rfl⟩
set_option maxHeartbeats 4000000 in
set_option maxRecDepth 100000 in
theorem c_X11_put (l : Launch) (hlf : l.stackTraces = false) (dC : Nat → ClassId) (dI : Nat → Nat → Nat) (g : Nat → ClassId) (a : Nat → Nat) (x : Int32) (ky : Int32) (mk : Int32) (sz : Nat) : vx_Met l yX11_put wsX11_put ({ frames := 7, cells := 8, slots := 48, locals := 105 }) (va_Pc [.ref (a 0), .int x, .int ky, .int mk] (PG (dC, dI) g (offW a g) sz)) (va_Qi (fun (r : Int32) (_ : Unit) => (TOKb x) = true ∧ (rngb ky (-999) 999 && rngb mk 0 9999) = true ∧ r = 0) (fun (_ : Unit) (_ : State) => True) (va_A (offW a g) sz)) (vx_X (fun _ : Unit => True) (fun E _ _ => (E = "java/lang/IndexOutOfBoundsException" ∧ (TOKb x) = false) ∨ (E = "java/lang/IllegalArgumentException" ∧ TOKb x = true ∧ (rngb ky (-999) 999 && rngb mk 0 9999) = false)) (va_A (offW a g) sz)) 8 48 (va_A (offW a g) sz) := by
  refine vx_ofW (cc := cX11_put) (maxL := 6) (ret := (some .int)) (by decide) rfl ?_
  intro p e s m args below meth c s₁ B hml hno hv
  obtain ⟨rfl, hsz, hP, hK, hD0, hG⟩ := hv
  have hx := B.exec
  have hb := B.bytes
  have hr := B.returns
  have hts := atoms_spec (ws := wsX11_put) B.pre
  have hown : s.vm.findClass RX11 = some m.cls := findClass_of_methodNamed B.named
  have hlocks := B.notSynchronized
  subst hsz
  have hD := hD0.self (sz := s.heap.size)
  generalize hAe : va_A (offW a g) s.heap.size = A at hD hG ⊢
  have hA : ∀ q : Nat, s.heap.size ≤ q → A q := fun q h => by rw [← hAe]; exact Or.inr h
  have hS : va_S A s.heap s.heap [] := va_S.rf
  have hl := lv_entry ([.ref (a 0), .int x, .int ky, .int mk]) (n := 6) (Nat.le_of_ble_eq_true rfl)
  rw [lg_entry_eq]
  generalize (lg_sl ([.ref (a 0), .int x, .int ky, .int mk]) ++ List.replicate (6 - (lg_sl ([.ref (a 0), .int x, .int ky, .int mk])).length) Slot.unset).toArray = ls at hl ⊢
  have hl : lv_has ls 6 [(0, .ref (a 0)), (1, .int x), (2, .int ky), (3, .int mk)] := hl
  have hf10 := hts (Cond.fieldLink RX11 10 "RunmergeOffice" "book" "LRunmergeOffice$Book;") (by decide +kernel)
  have hiX11 : ∀ w ∈ u_ws RX11 TX11 13, w ∈ wsX11_put := by decide +kernel
  refine lv_aload_n hx hb dX11_put_0 rfl (lv_at hl 0 rfl) ?_
  refine lv_iload_n hx hb dX11_put_1 rfl (lv_at hl 1 rfl) ?_
  refine vx_callq (vx_runV (As := [.int x]) (rest := []) ⟨hx, hb, hml, hown, hts⟩ (c_X11_tapeOf l hlf dC dI g (offW a g) (a 0) (a 1) (a 4) (a 5) (a 6) (a 8) (a 9) (a 12) (a 16) (a 22) (a 43) (a 64) (a 69) 0 (va_up (va_up (va_up (va_up (va_up (va_up (va_up (va_up (fun _ => none) 0 (some (a 108))) 1 (some (a 109))) 2 (some (a 110))) 3 (some (a 111))) 4 (some (a 112))) 5 (some (a 113))) 6 (some (a 114))) 7 (some (a 115))) (fun j => a (108 + j)) x 0 (o_0 a g) 4 (o_4 a g) (tp_at a) s.heap.size) (cwV 1 hts gX11_put_X11_tapeOf rfl rfl rfl (by decide +kernel) ⟨Nat.le_of_ble_eq_true rfl, Nat.le_of_ble_eq_true rfl⟩) ⟨PG_blind, va_recv hK hP (ci := 13) (q0 := 0) rfl (o_0 a g), PG_call hK hG hS hP hD (A_all hD hA hS.1)⟩ rfl rfl hl.1 rfl (lv_room (Nat.le_of_ble_eq_true rfl)) dX11_put_2 ⟨Nat.le_of_ble_eq_true rfl, Nat.le_of_ble_eq_true rfl⟩) hS (fun q _ h => (A_all hD hA hS.1) q h) (A_all hD hA hS.1) (fun q _ h => (A_all hD hA hS.1) q h) (fun E ce q9 u t H1 locs1 ht hvm hp9 hB9 hz hk hS9 hce hcv hcl => ?_) (fun r_1 u_1 t_1 H_1 L_1 ht_1 hvm_1 hw_1 hB_1 hz_1 hk_1 hS => ?_)
  · exact vx_out (fun x hx => (hno x hx).elim) hlocks hce hcv hcl (fun t ht hW => ⟨(), trivial, (by have h9 : E = "java/lang/IndexOutOfBoundsException" ∧ TOKb x = false := hB9; exact (Or.inl ⟨h9.1, by simp [h9.2]⟩)), hS9.F ht⟩) hS9.2.2 (Nat.le_of_ble_eq_true rfl) (Nat.le_of_ble_eq_true rfl)
  replace hB_1 := (show va_P (dC, dI) vwCl (offW a g) t_1.heap from hB_1)
  rw [ht_1] at hB_1
  have hP := hB_1
  obtain ⟨j_1, hj_1, ex_1, rfl⟩ := hw_1
  have w_1 := o_tape a g j_1 hj_1
  refine lv_astore (lv' := [(4, .ref (a (108 + j_1))), (0, .ref (a 0)), (1, .int x), (2, .int ky), (3, .int mk)]) hx hb dX11_put_5 hl (by decide) rfl (fun ls hl => ?_)
  refine lv_aload_n hx hb dX11_put_7 rfl (lv_at hl 1 rfl) ?_
  refine lv_iload_n hx hb dX11_put_8 rfl (lv_at hl 3 rfl) ?_
  refine lv_sipush (v := (-999)) hx hb dX11_put_9 (by decide) ?_
  refine lv_sipush (v := 999) hx hb dX11_put_12 (by decide) ?_
  refine vx_callv (vx_runV (As := [.int ky, .int (-999), .int 999]) (rest := []) ⟨hx, hb, hml, hown, hts⟩ (c_X11_demandRange l hlf dC dI g (offW a g) (a 0) ky (-999) 999   H_1.size) (cwV 3 hts gX11_put_X11_demandRange rfl rfl rfl (by decide +kernel) ⟨Nat.le_of_ble_eq_true rfl, Nat.le_of_ble_eq_true rfl⟩) ⟨PG_blind, va_recv hK hP (ci := 13) (q0 := 0) rfl (o_0 a g), PG_call hK hG hS hP hD (A_all hD hA hS.1)⟩ rfl rfl hl.1 rfl (lv_room (Nat.le_of_ble_eq_true rfl)) dX11_put_15 ⟨Nat.le_of_ble_eq_true rfl, Nat.le_of_ble_eq_true rfl⟩) hS (fun q _ h => (A_all hD hA hS.1) q h) (A_all hD hA hS.1) (fun q _ h => (A_all hD hA hS.1) q h) (fun E ce q9 u t H1 locs1 ht hvm hp9 hB9 hz hk hS9 hce hcv hcl => ?_) (fun u_2 t_2 H_2 L_2 ht_2 hvm_2 hw_2 hB_2 hz_2 hk_2 hS => ?_)
  · exact vx_out (fun x hx => (hno x hx).elim) hlocks hce hcv hcl (fun t ht hW => ⟨(), trivial, (by have h9 : E = "java/lang/IllegalArgumentException" ∧ rngb ky (-999) 999 = false := hB9; exact (Or.inr ⟨h9.1, by simp [TOK_j hj_1 ex_1], by simp [h9.2]⟩)), hS9.F ht⟩) hS9.2.2 (Nat.le_of_ble_eq_true rfl) (Nat.le_of_ble_eq_true rfl)
  replace hB_2 := (show va_P (dC, dI) vwCl (offW a g) t_2.heap from hB_2)
  rw [ht_2] at hB_2
  have hP := hB_2
  refine lv_aload_n hx hb dX11_put_18 rfl (lv_at hl 1 rfl) ?_
  refine lv_iload_n hx hb dX11_put_19 rfl (lv_at hl 4 rfl) ?_
  refine lv_iconst (v := 0) hx hb dX11_put_20 (by decide) ?_
  refine lv_sipush (v := 9999) hx hb dX11_put_21 (by decide) ?_
  refine vx_callv (vx_runV (As := [.int mk, .int 0, .int 9999]) (rest := []) ⟨hx, hb, hml, hown, hts⟩ (c_X11_demandRange l hlf dC dI g (offW a g) (a 0) mk 0 9999   H_2.size) (cwV 3 hts gX11_put_X11_demandRange rfl rfl rfl (by decide +kernel) ⟨Nat.le_of_ble_eq_true rfl, Nat.le_of_ble_eq_true rfl⟩) ⟨PG_blind, va_recv hK hP (ci := 13) (q0 := 0) rfl (o_0 a g), PG_call hK hG hS hP hD (A_all hD hA hS.1)⟩ rfl rfl hl.1 rfl (lv_room (Nat.le_of_ble_eq_true rfl)) dX11_put_24 ⟨Nat.le_of_ble_eq_true rfl, Nat.le_of_ble_eq_true rfl⟩) hS (fun q _ h => (A_all hD hA hS.1) q h) (A_all hD hA hS.1) (fun q _ h => (A_all hD hA hS.1) q h) (fun E ce q9 u t H1 locs1 ht hvm hp9 hB9 hz hk hS9 hce hcv hcl => ?_) (fun u_3 t_3 H_3 L_3 ht_3 hvm_3 hw_3 hB_3 hz_3 hk_3 hS => ?_)
  · exact vx_out (fun x hx => (hno x hx).elim) hlocks hce hcv hcl (fun t ht hW => ⟨(), trivial, (by have h9 : E = "java/lang/IllegalArgumentException" ∧ rngb mk 0 9999 = false := hB9; exact (Or.inr ⟨h9.1, by simp [TOK_j hj_1 ex_1, hw_2], by simp [h9.2]⟩)), hS9.F ht⟩) hS9.2.2 (Nat.le_of_ble_eq_true rfl) (Nat.le_of_ble_eq_true rfl)
  replace hB_3 := (show va_P (dC, dI) vwCl (offW a g) t_3.heap from hB_3)
  rw [ht_3] at hB_3
  have hP := hB_3
  refine lv_aload_n hx hb dX11_put_27 rfl (lv_at hl 1 rfl) ?_
  refine lv_aload hx hb dX11_put_28 (lv_at hl 0 rfl) ?_
  refine lv_iconst (v := 1) hx hb dX11_put_30 (by decide) ?_
  refine va_callv (va_runV (As := [.ref (a (108 + j_1)), .int 1]) (rest := []) ⟨hx, hb, hml, hown, hts⟩ (c_X11_demandRoom l dC dI g a (a (108 + j_1)) (a (116 + j_1)) (108 + j_1) 1 w_1 (by first | decide | exact hw_3) H_3.size) (cwV 2 hts gX11_put_X11_demandRoom rfl rfl rfl (by decide +kernel) ⟨Nat.le_of_ble_eq_true rfl, Nat.le_of_ble_eq_true rfl⟩) ⟨PG_blind, va_recv hK hP (ci := 13) (q0 := 0) rfl (o_0 a g), PG_call hK hG hS hP hD (A_all hD hA hS.1)⟩ rfl rfl hl.1 rfl (lv_room (Nat.le_of_ble_eq_true rfl)) dX11_put_31 ⟨Nat.le_of_ble_eq_true rfl, Nat.le_of_ble_eq_true rfl⟩) hS (fun q _ h => (A_all hD hA hS.1) q h) (A_all hD hA hS.1) (fun u_4 t_4 H_4 L_4 ht_4 hvm_4 hw_4 hB_4 hz_4 hk_4 hS => ?_)
  replace hB_4 := (show va_P (dC, dI) vwCl (offW a g) t_4.heap from hB_4)
  rw [ht_4] at hB_4
  have hP := hB_4
  obtain ⟨hP, hD⟩ := off_put a g j_1 hj_1 hP hD
  have hP : va_P (dC, dI) vwCl [((a 0), .inr (13, [.ref (a 1), .ref (a 4), .ref (a 5), .ref (a 6), .ref (a 8), .ref (a 9), .ref (a 12), .ref (a 16), .ref (a 22), .ref (a 43), .ref (a 64), .ref (a 69), .int 0])), ((a 1), .inr (2, [.ref (a 2), .ref (a 3), .int (nI 0)])), ((a 2), .inl (g 0, 200, .inl (fun _ => 0))), ((a 3), .inl (g 0, 200, .inl (fun _ => 0))), ((a (108 + j_1)), .inr (11, [.ref (a (116 + j_1)), .int (nI 0)])), ((a (116 + j_1)), .inl (g 0, 100, .inl (fun _ => 0)))] H_4 := hP
  have hD : va_D A [((a 0), .inr (13, [.ref (a 1), .ref (a 4), .ref (a 5), .ref (a 6), .ref (a 8), .ref (a 9), .ref (a 12), .ref (a 16), .ref (a 22), .ref (a 43), .ref (a 64), .ref (a 69), .int 0])), ((a 1), .inr (2, [.ref (a 2), .ref (a 3), .int (nI 0)])), ((a 2), .inl (g 0, 200, .inl (fun _ => 0))), ((a 3), .inl (g 0, 200, .inl (fun _ => 0))), ((a (108 + j_1)), .inr (11, [.ref (a (116 + j_1)), .int (nI 0)])), ((a (116 + j_1)), .inl (g 0, 100, .inl (fun _ => 0)))] := hD
  refine lv_aload_n hx hb dX11_put_34 rfl (lv_at hl 1 rfl) ?_
  refine va_get (D := (dC, dI)) (ci := 13) (v := .ref (a 1)) (C := RX11) (T := TX11) (N := 13) hx hb hts hiX11 hown hK hP 0 rfl rfl 0 (by decide) hf10 (fun _ h9 => h9) rfl dX11_put_35 ?_
  refine lv_iload_n hx hb dX11_put_38 rfl (lv_at hl 3 rfl) ?_
  refine lv_iload_n hx hb dX11_put_39 rfl (lv_at hl 4 rfl) ?_
  have hPc := hP.sub (ws' := [((a 1), .inr (2, [.ref (a 2), .ref (a 3), .int (nI 0)])), ((a 2), .inl (g 0, 200, .inl (fun _ => 0))), ((a 3), .inl (g 0, 200, .inl (fun _ => 0)))]) [1, 2, 3] rfl
  have hDc := hD.sub (ws' := [((a 1), .inr (2, [.ref (a 2), .ref (a 3), .int (nI 0)])), ((a 2), .inl (g 0, 200, .inl (fun _ => 0))), ((a 3), .inl (g 0, 200, .inl (fun _ => 0)))]) [1, 2, 3] (by decide) rfl
  have hFc := va_free (wc := [((a 1), .inr (2, [.ref (a 2), .ref (a 3), .int (nI 0)])), ((a 2), .inl (g 0, 200, .inl (fun _ => 0))), ((a 3), .inl (g 0, 200, .inl (fun _ => 0)))]) hD hS hA [1, 2, 3] rfl
  refine va_calli (va_runV (As := [.int ky, .int mk]) (rest := []) ⟨hx, hb, hml, hown, hts⟩ (c_X0_add l dC dI g (a 1) (a 2) (a 3) 0 (fun _ => 0) (fun _ => 0) ky mk (by omega) H_4.size) (cwV 2 hts gX11_put_X0_add rfl rfl rfl (by decide +kernel) ⟨Nat.le_of_ble_eq_true rfl, Nat.le_of_ble_eq_true rfl⟩) ⟨PG_blind, va_recv hK hP (ci := 2) (q0 := 1) rfl rfl, PG_call hK hG hS hPc hDc hFc⟩ rfl rfl hl.1 rfl (lv_room (Nat.le_of_ble_eq_true rfl)) dX11_put_40 ⟨Nat.le_of_ble_eq_true rfl, Nat.le_of_ble_eq_true rfl⟩) hS (fun q _ h => hFc q h) hFc (fun r_5 u_5 t_5 H_5 L_5 ht_5 hvm_5 hw_5 hB_5 hz_5 hk_5 hS => ?_)
  obtain ⟨hP1, hD1⟩ := hB_5
  rw [ht_5] at hP1
  obtain ⟨hP, hD⟩ := va_join (wr := [((a 0), .inr (13, [.ref (a 1), .ref (a 4), .ref (a 5), .ref (a 6), .ref (a 8), .ref (a 9), .ref (a 12), .ref (a 16), .ref (a 22), .ref (a 43), .ref (a 64), .ref (a 69), .int 0])), ((a (108 + j_1)), .inr (11, [.ref (a (116 + j_1)), .int (nI 0)])), ((a (116 + j_1)), .inl (g 0, 100, .inl (fun _ => 0)))]) (w1 := [((a 1), .inr (2, [.ref (a 2), .ref (a 3), .int (nI (0 + 1))])), ((a 2), .inl (g 0, 200, .inl (upd (fun _ => 0) (nI 0).toNatClampNeg ky))), ((a 3), .inl (g 0, 200, .inl (upd (fun _ => 0) (nI 0).toNatClampNeg mk)))]) hP hD [1, 2, 3] [0, 4, 5] rfl rfl (by decide) (by decide) hk_5 hFc hP1 hD1
  have hP : va_P (dC, dI) vwCl [((a 0), .inr (13, [.ref (a 1), .ref (a 4), .ref (a 5), .ref (a 6), .ref (a 8), .ref (a 9), .ref (a 12), .ref (a 16), .ref (a 22), .ref (a 43), .ref (a 64), .ref (a 69), .int 0])), ((a (108 + j_1)), .inr (11, [.ref (a (116 + j_1)), .int (nI 0)])), ((a (116 + j_1)), .inl (g 0, 100, .inl (fun _ => 0))), ((a 1), .inr (2, [.ref (a 2), .ref (a 3), .int (nI (0 + 1))])), ((a 2), .inl (g 0, 200, .inl (upd (fun _ => 0) (nI 0).toNatClampNeg ky))), ((a 3), .inl (g 0, 200, .inl (upd (fun _ => 0) (nI 0).toNatClampNeg mk)))] H_5 := hP
  have hD : va_D A [((a 0), .inr (13, [.ref (a 1), .ref (a 4), .ref (a 5), .ref (a 6), .ref (a 8), .ref (a 9), .ref (a 12), .ref (a 16), .ref (a 22), .ref (a 43), .ref (a 64), .ref (a 69), .int 0])), ((a (108 + j_1)), .inr (11, [.ref (a (116 + j_1)), .int (nI 0)])), ((a (116 + j_1)), .inl (g 0, 100, .inl (fun _ => 0))), ((a 1), .inr (2, [.ref (a 2), .ref (a 3), .int (nI (0 + 1))])), ((a 2), .inl (g 0, 200, .inl (upd (fun _ => 0) (nI 0).toNatClampNeg ky))), ((a 3), .inl (g 0, 200, .inl (upd (fun _ => 0) (nI 0).toNatClampNeg mk)))] := hD
  obtain rfl : r_5 = nI 0 := hw_5
  refine lv_istore (lv' := [(5, .int (nI 0)), (4, .ref (a (108 + j_1))), (0, .ref (a 0)), (1, .int x), (2, .int ky), (3, .int mk)]) hx hb dX11_put_43 hl (by decide) rfl (fun ls hl => ?_)
  refine lv_aload hx hb dX11_put_45 (lv_at hl 1 rfl) ?_
  refine lv_iload hx hb dX11_put_47 (lv_at hl 0 rfl) ?_
  have hPc := hP.sub (ws' := [((a (108 + j_1)), .inr (11, [.ref (a (116 + j_1)), .int (nI 0)])), ((a (116 + j_1)), .inl (g 0, 100, .inl (fun _ => 0)))]) [1, 2] rfl
  have hDc := hD.sub (ws' := [((a (108 + j_1)), .inr (11, [.ref (a (116 + j_1)), .int (nI 0)])), ((a (116 + j_1)), .inl (g 0, 100, .inl (fun _ => 0)))]) [1, 2] (by decide) rfl
  have hFc := va_free (wc := [((a (108 + j_1)), .inr (11, [.ref (a (116 + j_1)), .int (nI 0)])), ((a (116 + j_1)), .inl (g 0, 100, .inl (fun _ => 0)))]) hD hS hA [1, 2] rfl
  refine va_callv (va_runV (As := [.int (nI 0)]) (rest := []) ⟨hx, hb, hml, hown, hts⟩ (c_X9_add l dC dI g (a (108 + j_1)) (a (116 + j_1)) 0 (fun _ => 0) (nI 0) (by omega) H_5.size) (cwV 1 hts gX11_put_X9_add rfl rfl rfl (by decide +kernel) ⟨Nat.le_of_ble_eq_true rfl, Nat.le_of_ble_eq_true rfl⟩) ⟨PG_blind, va_recv hK hP (ci := 11) (q0 := 1) rfl rfl, PG_call hK hG hS hPc hDc hFc⟩ rfl rfl hl.1 rfl (lv_room (Nat.le_of_ble_eq_true rfl)) dX11_put_49 ⟨Nat.le_of_ble_eq_true rfl, Nat.le_of_ble_eq_true rfl⟩) hS (fun q _ h => hFc q h) hFc (fun u_6 t_6 H_6 L_6 ht_6 hvm_6 hw_6 hB_6 hz_6 hk_6 hS => ?_)
  obtain ⟨hP1, hD1⟩ := hB_6
  rw [ht_6] at hP1
  obtain ⟨hP, hD⟩ := va_join (wr := [((a 0), .inr (13, [.ref (a 1), .ref (a 4), .ref (a 5), .ref (a 6), .ref (a 8), .ref (a 9), .ref (a 12), .ref (a 16), .ref (a 22), .ref (a 43), .ref (a 64), .ref (a 69), .int 0])), ((a 1), .inr (2, [.ref (a 2), .ref (a 3), .int (nI (0 + 1))])), ((a 2), .inl (g 0, 200, .inl (upd (fun _ => 0) (nI 0).toNatClampNeg ky))), ((a 3), .inl (g 0, 200, .inl (upd (fun _ => 0) (nI 0).toNatClampNeg mk)))]) (w1 := [((a (108 + j_1)), .inr (11, [.ref (a (116 + j_1)), .int (nI (0 + 1))])), ((a (116 + j_1)), .inl (g 0, 100, .inl (upd (fun _ => 0) (nI 0).toNatClampNeg (nI 0))))]) hP hD [1, 2] [0, 3, 4, 5] rfl rfl (by decide) (by decide) hk_6 hFc hP1 hD1
  have hP : va_P (dC, dI) vwCl [((a 0), .inr (13, [.ref (a 1), .ref (a 4), .ref (a 5), .ref (a 6), .ref (a 8), .ref (a 9), .ref (a 12), .ref (a 16), .ref (a 22), .ref (a 43), .ref (a 64), .ref (a 69), .int 0])), ((a 1), .inr (2, [.ref (a 2), .ref (a 3), .int (nI (0 + 1))])), ((a 2), .inl (g 0, 200, .inl (upd (fun _ => 0) (nI 0).toNatClampNeg ky))), ((a 3), .inl (g 0, 200, .inl (upd (fun _ => 0) (nI 0).toNatClampNeg mk))), ((a (108 + j_1)), .inr (11, [.ref (a (116 + j_1)), .int (nI (0 + 1))])), ((a (116 + j_1)), .inl (g 0, 100, .inl (upd (fun _ => 0) (nI 0).toNatClampNeg (nI 0))))] H_6 := hP
  have hD : va_D A [((a 0), .inr (13, [.ref (a 1), .ref (a 4), .ref (a 5), .ref (a 6), .ref (a 8), .ref (a 9), .ref (a 12), .ref (a 16), .ref (a 22), .ref (a 43), .ref (a 64), .ref (a 69), .int 0])), ((a 1), .inr (2, [.ref (a 2), .ref (a 3), .int (nI (0 + 1))])), ((a 2), .inl (g 0, 200, .inl (upd (fun _ => 0) (nI 0).toNatClampNeg ky))), ((a 3), .inl (g 0, 200, .inl (upd (fun _ => 0) (nI 0).toNatClampNeg mk))), ((a (108 + j_1)), .inr (11, [.ref (a (116 + j_1)), .int (nI (0 + 1))])), ((a (116 + j_1)), .inl (g 0, 100, .inl (upd (fun _ => 0) (nI 0).toNatClampNeg (nI 0))))] := hD
  refine lv_iload hx hb dX11_put_52 (lv_at hl 0 rfl) ?_
  refine W.widen (k := 8) (n := 48) (by omega) (by omega) ?_
  refine vx_ret ?_
  exact W.iret (v := (nI 0)) hx hb hr (fun t ht hW => ⟨⟨(nI 0), (), rfl, ⟨by simp [TOK_j hj_1 ex_1, hw_2, hw_3], by simp [TOK_j hj_1 ex_1, hw_2, hw_3], rfl⟩, trivial⟩, hS.F ht⟩) hS.2.2 dX11_put_54
