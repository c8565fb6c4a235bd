theorem dX11_fill_0 : decode cX11_fill 0 = .ok (.aload_n 0, 1) := by decide +kernel
theorem dX11_fill_1 : decode cX11_fill 1 = .ok (.iload_n 1, 1) := by decide +kernel
set_option maxRecDepth 20000 in
theorem ggX11_fill_X11_tapeOf : GoodIn wsX11_fill wsX11_tapeOf := goodIn_ca (goodIn_r _ [6, 7, 8, 9, 37, 38, 39, 40, 41, 42, 43, 44, 45, 46, 47, 48, 49] (by decide +kernel) (by decide +kernel)) (goodIn_sub (fun _ h => List.mem_cons_of_mem _ (List.mem_append_left _ (List.mem_append_left _ (List.mem_append_right _ h)))) (by decide +kernel))
set_option maxRecDepth 20000 in
theorem gX11_fill_X11_tapeOf : GoodIn wsX11_fill (wsV RX11 86 RX11 yX11_tapeOf wsX11_tapeOf) := goodIn_app (goodIn_of _ (by decide +kernel)) ggX11_fill_X11_tapeOf
theorem dX11_fill_2 : decode cX11_fill 2 = .ok (.invokevirtual 86, 3) := by decide +kernel
theorem dX11_fill_5 : decode cX11_fill 5 = .ok (.astore 5, 2) := by decide +kernel
theorem dX11_fill_7 : decode cX11_fill 7 = .ok (.aload_n 0, 1) := by decide +kernel
theorem dX11_fill_8 : decode cX11_fill 8 = .ok (.iload_n 2, 1) := by decide +kernel
theorem dX11_fill_9 : decode cX11_fill 9 = .ok (.sipush (-999), 3) := by decide +kernel
theorem dX11_fill_12 : decode cX11_fill 12 = .ok (.sipush 999, 3) := by decide +kernel
set_option maxRecDepth 20000 in
theorem ggX11_fill_X11_demandRange : GoodIn wsX11_fill wsX11_demandRange := goodIn_ca (goodIn_r _ [13, 14, 15] (by decide +kernel) (by decide +kernel)) (goodIn_sub (fun _ h => List.mem_cons_of_mem _ (List.mem_append_left _ (List.mem_append_right _ h))) (by decide +kernel))
set_option maxRecDepth 20000 in
theorem gX11_fill_X11_demandRange : GoodIn wsX11_fill (wsV RX11 90 RX11 yX11_demandRange wsX11_demandRange) := goodIn_app (goodIn_of _ (by decide +kernel)) ggX11_fill_X11_demandRange
theorem dX11_fill_15 : decode cX11_fill 15 = .ok (.invokevirtual 90, 3) := by decide +kernel
theorem dX11_fill_18 : decode cX11_fill 18 = .ok (.aload_n 0, 1) := by decide +kernel
theorem dX11_fill_19 : decode cX11_fill 19 = .ok (.iload_n 3, 1) := by decide +kernel
theorem dX11_fill_20 : decode cX11_fill 20 = .ok (.bipush (-50), 2) := by decide +kernel
theorem dX11_fill_22 : decode cX11_fill 22 = .ok (.bipush 50, 2) := by decide +kernel
theorem dX11_fill_24 : decode cX11_fill 24 = .ok (.invokevirtual 90, 3) := by decide +kernel
theorem dX11_fill_27 : decode cX11_fill 27 = .ok (.aload_n 0, 1) := by decide +kernel
theorem dX11_fill_28 : decode cX11_fill 28 = .ok (.iload 4, 2) := by decide +kernel
theorem dX11_fill_30 : decode cX11_fill 30 = .ok (.iconst 0, 1) := by decide +kernel
theorem dX11_fill_31 : decode cX11_fill 31 = .ok (.bipush 50, 2) := by decide +kernel
theorem dX11_fill_33 : decode cX11_fill 33 = .ok (.invokevirtual 90, 3) := by decide +kernel
theorem dX11_fill_36 : decode cX11_fill 36 = .ok (.iload 4, 2) := by decide +kernel
theorem dX11_fill_38 : decode cX11_fill 38 = .ok (.ifCond .le 21, 3) := by decide +kernel
theorem dX11_fill_59 : decode cX11_fill 59 = .ok (.aload_n 0, 1) := by decide +kernel
theorem dX11_fill_60 : decode cX11_fill 60 = .ok (.aload 5, 2) := by decide +kernel
theorem dX11_fill_62 : decode cX11_fill 62 = .ok (.iload 4, 2) := by decide +kernel
set_option maxRecDepth 20000 in
theorem ggX11_fill_X11_demandRoom : GoodIn wsX11_fill wsX11_demandRoom := goodIn_ca (goodIn_r _ [19, 20, 21, 1, 37, 38, 39, 40, 41, 42, 43, 44, 45, 46, 47, 48, 49, 52, 53, 54, 50, 51] (by decide +kernel) (by decide +kernel)) (goodIn_sub (fun _ h => List.mem_cons_of_mem _ (List.mem_append_right _ h)) (by decide +kernel))
set_option maxRecDepth 20000 in
theorem gX11_fill_X11_demandRoom : GoodIn wsX11_fill (wsV RX11 94 RX11 yX11_demandRoom wsX11_demandRoom) := goodIn_app (goodIn_of _ (by decide +kernel)) ggX11_fill_X11_demandRoom
theorem dX11_fill_64 : decode cX11_fill 64 = .ok (.invokevirtual 94, 3) := by decide +kernel
theorem dX11_fill_67 : decode cX11_fill 67 = .ok (.iconst 0, 1) := by decide +kernel
theorem dX11_fill_68 : decode cX11_fill 68 = .ok (.istore 6, 2) := by decide +kernel
theorem dX11_fill_70 : decode cX11_fill 70 = .ok (.iload 6, 2) := by decide +kernel
theorem dX11_fill_72 : decode cX11_fill 72 = .ok (.iload 4, 2) := by decide +kernel
theorem dX11_fill_74 : decode cX11_fill 74 = .ok (.if_icmp .ge 28, 3) := by decide +kernel
theorem dX11_fill_102 : decode cX11_fill 102 = .ok (.aload 5, 2) := by decide +kernel
theorem dX11_fill_104 : decode cX11_fill 104 = .ok (.getfield 105, 3) := by decide +kernel
theorem dX11_fill_107 : decode cX11_fill 107 = .ok (.ireturn, 1) := by decide +kernel
theorem dX11_fill_41 : decode cX11_fill 41 = .ok (.aload_n 0, 1) := by decide +kernel
theorem dX11_fill_42 : decode cX11_fill 42 = .ok (.iload_n 2, 1) := by decide +kernel
theorem dX11_fill_43 : decode cX11_fill 43 = .ok (.iload_n 3, 1) := by decide +kernel
theorem dX11_fill_44 : decode cX11_fill 44 = .ok (.iload 4, 2) := by decide +kernel
theorem dX11_fill_46 : decode cX11_fill 46 = .ok (.iconst 1, 1) := by decide +kernel
theorem dX11_fill_47 : decode cX11_fill 47 = .ok (.isub, 1) := by decide +kernel
theorem dX11_fill_48 : decode cX11_fill 48 = .ok (.imul, 1) := by decide +kernel
theorem dX11_fill_49 : decode cX11_fill 49 = .ok (.iadd, 1) := by decide +kernel
theorem dX11_fill_50 : decode cX11_fill 50 = .ok (.sipush (-999), 3) := by decide +kernel
theorem dX11_fill_53 : decode cX11_fill 53 = .ok (.sipush 999, 3) := by decide +kernel
theorem dX11_fill_56 : decode cX11_fill 56 = .ok (.invokevirtual 90, 3) := by decide +kernel
theorem dX11_fill_77 : decode cX11_fill 77 = .ok (.aload 5, 2) := by decide +kernel
theorem dX11_fill_79 : decode cX11_fill 79 = .ok (.aload_n 0, 1) := by decide +kernel
theorem dX11_fill_80 : decode cX11_fill 80 = .ok (.getfield 10, 3) := by decide +kernel
theorem dX11_fill_83 : decode cX11_fill 83 = .ok (.iload_n 2, 1) := by decide +kernel
theorem dX11_fill_84 : decode cX11_fill 84 = .ok (.iload_n 3, 1) := by decide +kernel
theorem dX11_fill_85 : decode cX11_fill 85 = .ok (.iload 6, 2) := by decide +kernel
theorem dX11_fill_87 : decode cX11_fill 87 = .ok (.imul, 1) := by decide +kernel
theorem dX11_fill_88 : decode cX11_fill 88 = .ok (.iadd, 1) := by decide +kernel
theorem dX11_fill_89 : decode cX11_fill 89 = .ok (.iconst 0, 1) := by decide +kernel
set_option maxRecDepth 20000 in
theorem ggX11_fill_X0_add : GoodIn wsX11_fill wsX0_add := goodIn_r _ [26, 27, 28, 29, 52, 53, 54] (by decide +kernel) (by decide +kernel)
set_option maxRecDepth 20000 in
theorem gX11_fill_X0_add : GoodIn wsX11_fill (wsV RX11 98 RX0 yX0_add wsX0_add) := goodIn_app (goodIn_of _ (by decide +kernel)) ggX11_fill_X0_add
theorem dX11_fill_90 : decode cX11_fill 90 = .ok (.invokevirtual 98, 3) := by decide +kernel
set_option maxRecDepth 20000 in
theorem ggX11_fill_X9_add : GoodIn wsX11_fill wsX9_add := goodIn_r _ [34, 35, 36, 50, 51] (by decide +kernel) (by decide +kernel)
set_option maxRecDepth 20000 in
theorem gX11_fill_X9_add : GoodIn wsX11_fill (wsV RX11 102 RX9 yX9_add wsX9_add) := goodIn_app (goodIn_of _ (by decide +kernel)) ggX11_fill_X9_add
theorem dX11_fill_93 : decode cX11_fill 93 = .ok (.invokevirtual 102, 3) := by decide +kernel
theorem dX11_fill_96 : decode cX11_fill 96 = .ok (.iinc 6 1, 3) := by decide +kernel
theorem dX11_fill_99 : decode cX11_fill 99 = .ok (.goto (-29), 3) := by decide +kernel
set_option maxHeartbeats 4000000 in
set_option maxRecDepth 100000 in
theorem c_X11_fill (l : Launch) (hlf : l.stackTraces = false) (dC : Nat → ClassId) (dI : Nat → Nat → Nat) (g : Nat → ClassId) (a : Nat → Nat) (x : Int32) (f : Int32) (sp : Int32) (mn : Int32) (sz : Nat) : vx_Met l yX11_fill wsX11_fill ({ frames := 7, cells := 8, slots := 48, locals := 105 }) (va_Pc [.ref (a 0), .int x, .int f, .int sp, .int mn] (PG (dC, dI) g (offW a g) sz)) (va_Qi (fun (r : Int32) (_ : Unit) => (TOKb x) = true ∧ (rngb f (-999) 999 && rngb sp (-50) 50 && rngb mn 0 50 && (decide (mn = 0) || rngb (f + (sp * (mn - 1))) (-999) 999)) = true ∧ r = mn) (fun (_ : Unit) (_ : State) => True) (va_A (offW a g) sz)) (vx_X (fun _ : Unit => True) (fun E _ _ => (E = "java/lang/IndexOutOfBoundsException" ∧ (TOKb x) = false) ∨ (E = "java/lang/IllegalArgumentException" ∧ TOKb x = true ∧ (rngb f (-999) 999 && rngb sp (-50) 50 && rngb mn 0 50 && (decide (mn = 0) || rngb (f + (sp * (mn - 1))) (-999) 999)) = false)) (va_A (offW a g) sz)) 8 48 (va_A (offW a g) sz) := by
  refine vx_ofW (cc := cX11_fill) (maxL := 7) (ret := (some .int)) (by decide) rfl ?_
  intro p e s m args below meth c s₁ B hml hno hv
  obtain ⟨rfl, hsz, hP, hK, hD0, hG⟩ := hv
  have hx := B.exec
  have hb := B.bytes
  have hr := B.returns
  have hts := atoms_spec (ws := wsX11_fill) B.pre
  have hown : s.vm.findClass RX11 = some m.cls := findClass_of_methodNamed B.named
  have hlocks := B.notSynchronized
  subst hsz
  have hD := hD0.self (sz := s.heap.size)
  generalize hAe : va_A (offW a g) s.heap.size = A at hD hG ⊢
  have hA : ∀ q : Nat, s.heap.size ≤ q → A q := fun q h => by rw [← hAe]; exact Or.inr h
  have hS : va_S A s.heap s.heap [] := va_S.rf
  have hl := lv_entry ([.ref (a 0), .int x, .int f, .int sp, .int mn]) (n := 7) (Nat.le_of_ble_eq_true rfl)
  rw [lg_entry_eq]
  generalize (lg_sl ([.ref (a 0), .int x, .int f, .int sp, .int mn]) ++ List.replicate (7 - (lg_sl ([.ref (a 0), .int x, .int f, .int sp, .int mn])).length) Slot.unset).toArray = ls at hl ⊢
  have hl : lv_has ls 7 [(0, .ref (a 0)), (1, .int x), (2, .int f), (3, .int sp), (4, .int mn)] := hl
  have hiX9 : ∀ w ∈ u_ws RX9 TX9 2, w ∈ wsX11_fill := by decide +kernel
  have hf10 := hts (Cond.fieldLink RX11 10 "RunmergeOffice" "book" "LRunmergeOffice$Book;") (by decide +kernel)
  have hiX11 : ∀ w ∈ u_ws RX11 TX11 13, w ∈ wsX11_fill := by decide +kernel
  refine lv_aload_n hx hb dX11_fill_0 rfl (lv_at hl 0 rfl) ?_
  refine lv_iload_n hx hb dX11_fill_1 rfl (lv_at hl 1 rfl) ?_
  refine vx_callq (vx_runV (As := [.int x]) (rest := []) ⟨hx, hb, hml, hown, hts⟩ (c_X11_tapeOf l hlf dC dI g (offW a g) (a 0) (a 1) (a 4) (a 5) (a 6) (a 8) (a 9) (a 12) (a 16) (a 22) (a 43) (a 64) (a 69) 0 (va_up (va_up (va_up (va_up (va_up (va_up (va_up (va_up (fun _ => none) 0 (some (a 108))) 1 (some (a 109))) 2 (some (a 110))) 3 (some (a 111))) 4 (some (a 112))) 5 (some (a 113))) 6 (some (a 114))) 7 (some (a 115))) (fun j => a (108 + j)) x 0 (o_0 a g) 4 (o_4 a g) (tp_at a) s.heap.size) (cwV 1 hts gX11_fill_X11_tapeOf rfl rfl rfl (by decide +kernel) ⟨Nat.le_of_ble_eq_true rfl, Nat.le_of_ble_eq_true rfl⟩) ⟨PG_blind, va_recv hK hP (ci := 13) (q0 := 0) rfl (o_0 a g), PG_call hK hG hS hP hD (A_all hD hA hS.1)⟩ rfl rfl hl.1 rfl (lv_room (Nat.le_of_ble_eq_true rfl)) dX11_fill_2 ⟨Nat.le_of_ble_eq_true rfl, Nat.le_of_ble_eq_true rfl⟩) hS (fun q _ h => (A_all hD hA hS.1) q h) (A_all hD hA hS.1) (fun q _ h => (A_all hD hA hS.1) q h) (fun E ce q9 u t H1 locs1 ht hvm hp9 hB9 hz hk hS9 hce hcv hcl => ?_) (fun r_1 u_1 t_1 H_1 L_1 ht_1 hvm_1 hw_1 hB_1 hz_1 hk_1 hS => ?_)
  · exact vx_out (fun x hx => (hno x hx).elim) hlocks hce hcv hcl (fun t ht hW => ⟨(), trivial, (by have h9 : E = "java/lang/IndexOutOfBoundsException" ∧ TOKb x = false := hB9; exact (Or.inl ⟨h9.1, by simp [h9.2]⟩)), hS9.F ht⟩) hS9.2.2 (Nat.le_of_ble_eq_true rfl) (Nat.le_of_ble_eq_true rfl)
  replace hB_1 := (show va_P (dC, dI) vwCl (offW a g) t_1.heap from hB_1)
  rw [ht_1] at hB_1
  have hP := hB_1
  obtain ⟨j_1, hj_1, ex_1, rfl⟩ := hw_1
  have w_1 := o_tape a g j_1 hj_1
  refine lv_astore (lv' := [(5, .ref (a (108 + j_1))), (0, .ref (a 0)), (1, .int x), (2, .int f), (3, .int sp), (4, .int mn)]) hx hb dX11_fill_5 hl (by decide) rfl (fun ls hl => ?_)
  refine lv_aload_n hx hb dX11_fill_7 rfl (lv_at hl 1 rfl) ?_
  refine lv_iload_n hx hb dX11_fill_8 rfl (lv_at hl 3 rfl) ?_
  refine lv_sipush (v := (-999)) hx hb dX11_fill_9 (by decide) ?_
  refine lv_sipush (v := 999) hx hb dX11_fill_12 (by decide) ?_
  refine vx_callv (vx_runV (As := [.int f, .int (-999), .int 999]) (rest := []) ⟨hx, hb, hml, hown, hts⟩ (c_X11_demandRange l hlf dC dI g (offW a g) (a 0) f (-999) 999   H_1.size) (cwV 3 hts gX11_fill_X11_demandRange rfl rfl rfl (by decide +kernel) ⟨Nat.le_of_ble_eq_true rfl, Nat.le_of_ble_eq_true rfl⟩) ⟨PG_blind, va_recv hK hP (ci := 13) (q0 := 0) rfl (o_0 a g), PG_call hK hG hS hP hD (A_all hD hA hS.1)⟩ rfl rfl hl.1 rfl (lv_room (Nat.le_of_ble_eq_true rfl)) dX11_fill_15 ⟨Nat.le_of_ble_eq_true rfl, Nat.le_of_ble_eq_true rfl⟩) hS (fun q _ h => (A_all hD hA hS.1) q h) (A_all hD hA hS.1) (fun q _ h => (A_all hD hA hS.1) q h) (fun E ce q9 u t H1 locs1 ht hvm hp9 hB9 hz hk hS9 hce hcv hcl => ?_) (fun u_2 t_2 H_2 L_2 ht_2 hvm_2 hw_2 hB_2 hz_2 hk_2 hS => ?_)
  · exact vx_out (fun x hx => (hno x hx).elim) hlocks hce hcv hcl (fun t ht hW => ⟨(), trivial, (by have h9 : E = "java/lang/IllegalArgumentException" ∧ rngb f (-999) 999 = false := hB9; exact (Or.inr ⟨h9.1, by simp [TOK_j hj_1 ex_1], by simp [h9.2]⟩)), hS9.F ht⟩) hS9.2.2 (Nat.le_of_ble_eq_true rfl) (Nat.le_of_ble_eq_true rfl)
  replace hB_2 := (show va_P (dC, dI) vwCl (offW a g) t_2.heap from hB_2)
  rw [ht_2] at hB_2
  have hP := hB_2
  refine lv_aload_n hx hb dX11_fill_18 rfl (lv_at hl 1 rfl) ?_
  refine lv_iload_n hx hb dX11_fill_19 rfl (lv_at hl 4 rfl) ?_
  refine lv_bipush (v := (-50)) hx hb dX11_fill_20 (by decide) ?_
  refine lv_bipush (v := 50) hx hb dX11_fill_22 (by decide) ?_
  refine vx_callv (vx_runV (As := [.int sp, .int (-50), .int 50]) (rest := []) ⟨hx, hb, hml, hown, hts⟩ (c_X11_demandRange l hlf dC dI g (offW a g) (a 0) sp (-50) 50   H_2.size) (cwV 3 hts gX11_fill_X11_demandRange rfl rfl rfl (by decide +kernel) ⟨Nat.le_of_ble_eq_true rfl, Nat.le_of_ble_eq_true rfl⟩) ⟨PG_blind, va_recv hK hP (ci := 13) (q0 := 0) rfl (o_0 a g), PG_call hK hG hS hP hD (A_all hD hA hS.1)⟩ rfl rfl hl.1 rfl (lv_room (Nat.le_of_ble_eq_true rfl)) dX11_fill_24 ⟨Nat.le_of_ble_eq_true rfl, Nat.le_of_ble_eq_true rfl⟩) hS (fun q _ h => (A_all hD hA hS.1) q h) (A_all hD hA hS.1) (fun q _ h => (A_all hD hA hS.1) q h) (fun E ce q9 u t H1 locs1 ht hvm hp9 hB9 hz hk hS9 hce hcv hcl => ?_) (fun u_3 t_3 H_3 L_3 ht_3 hvm_3 hw_3 hB_3 hz_3 hk_3 hS => ?_)
  · exact vx_out (fun x hx => (hno x hx).elim) hlocks hce hcv hcl (fun t ht hW => ⟨(), trivial, (by have h9 : E = "java/lang/IllegalArgumentException" ∧ rngb sp (-50) 50 = false := hB9; exact (Or.inr ⟨h9.1, by simp [TOK_j hj_1 ex_1, hw_2], by simp [h9.2]⟩)), hS9.F ht⟩) hS9.2.2 (Nat.le_of_ble_eq_true rfl) (Nat.le_of_ble_eq_true rfl)
  replace hB_3 := (show va_P (dC, dI) vwCl (offW a g) t_3.heap from hB_3)
  rw [ht_3] at hB_3
  have hP := hB_3
  refine lv_aload_n hx hb dX11_fill_27 rfl (lv_at hl 1 rfl) ?_
  refine lv_iload hx hb dX11_fill_28 (lv_at hl 5 rfl) ?_
  refine lv_iconst (v := 0) hx hb dX11_fill_30 (by decide) ?_
  refine lv_bipush (v := 50) hx hb dX11_fill_31 (by decide) ?_
  refine vx_callv (vx_runV (As := [.int mn, .int 0, .int 50]) (rest := []) ⟨hx, hb, hml, hown, hts⟩ (c_X11_demandRange l hlf dC dI g (offW a g) (a 0) mn 0 50   H_3.size) (cwV 3 hts gX11_fill_X11_demandRange rfl rfl rfl (by decide +kernel) ⟨Nat.le_of_ble_eq_true rfl, Nat.le_of_ble_eq_true rfl⟩) ⟨PG_blind, va_recv hK hP (ci := 13) (q0 := 0) rfl (o_0 a g), PG_call hK hG hS hP hD (A_all hD hA hS.1)⟩ rfl rfl hl.1 rfl (lv_room (Nat.le_of_ble_eq_true rfl)) dX11_fill_33 ⟨Nat.le_of_ble_eq_true rfl, Nat.le_of_ble_eq_true rfl⟩) hS (fun q _ h => (A_all hD hA hS.1) q h) (A_all hD hA hS.1) (fun q _ h => (A_all hD hA hS.1) q h) (fun E ce q9 u t H1 locs1 ht hvm hp9 hB9 hz hk hS9 hce hcv hcl => ?_) (fun u_4 t_4 H_4 L_4 ht_4 hvm_4 hw_4 hB_4 hz_4 hk_4 hS => ?_)
  · exact vx_out (fun x hx => (hno x hx).elim) hlocks hce hcv hcl (fun t ht hW => ⟨(), trivial, (by have h9 : E = "java/lang/IllegalArgumentException" ∧ rngb mn 0 50 = false := hB9; exact (Or.inr ⟨h9.1, by simp [TOK_j hj_1 ex_1, hw_2, hw_3], by simp [h9.2]⟩)), hS9.F ht⟩) hS9.2.2 (Nat.le_of_ble_eq_true rfl) (Nat.le_of_ble_eq_true rfl)
  replace hB_4 := (show va_P (dC, dI) vwCl (offW a g) t_4.heap from hB_4)
  rw [ht_4] at hB_4
  have hP := hB_4
  refine lv_iload hx hb dX11_fill_36 (lv_at hl 5 rfl) ?_
  refine lv_if_le (tgt := 59) hx hb dX11_fill_38 (by decide) (fun c_5 => ?_) (fun c_5 => ?_)
  · obtain rfl : mn = 0 := rng_0 hw_4 c_5
    refine lv_aload_n hx hb dX11_fill_59 rfl (lv_at hl 1 rfl) ?_
    refine lv_aload hx hb dX11_fill_60 (lv_at hl 0 rfl) ?_
    refine lv_iload hx hb dX11_fill_62 (lv_at hl 5 rfl) ?_
    refine va_callv (va_runV (As := [.ref (a (108 + j_1)), .int 0]) (rest := []) ⟨hx, hb, hml, hown, hts⟩ (c_X11_demandRoom l dC dI g a (a (108 + j_1)) (a (116 + j_1)) (108 + j_1) 0 w_1 (by decide) H_4.size) (cwV 2 hts gX11_fill_X11_demandRoom rfl rfl rfl (by decide +kernel) ⟨Nat.le_of_ble_eq_true rfl, Nat.le_of_ble_eq_true rfl⟩) ⟨PG_blind, va_recv hK hP (ci := 13) (q0 := 0) rfl (o_0 a g), PG_call hK hG hS hP hD (A_all hD hA hS.1)⟩ rfl rfl hl.1 rfl (lv_room (Nat.le_of_ble_eq_true rfl)) dX11_fill_64 ⟨Nat.le_of_ble_eq_true rfl, Nat.le_of_ble_eq_true rfl⟩) hS (fun q _ h => (A_all hD hA hS.1) q h) (A_all hD hA hS.1) (fun u_6 t_6 H_6 L_6 ht_6 hvm_6 hw_6 hB_6 hz_6 hk_6 hS => ?_)
    replace hB_6 := (show va_P (dC, dI) vwCl (offW a g) t_6.heap from hB_6)
    rw [ht_6] at hB_6
    have hP := hB_6
    obtain ⟨hP, hD⟩ := off_put a g j_1 hj_1 hP hD
    have hP : va_P (dC, dI) vwCl [((a 0), .inr (13, [.ref (a 1), .ref (a 4), .ref (a 5), .ref (a 6), .ref (a 8), .ref (a 9), .ref (a 12), .ref (a 16), .ref (a 22), .ref (a 43), .ref (a 64), .ref (a 69), .int 0])), ((a 1), .inr (2, [.ref (a 2), .ref (a 3), .int (nI 0)])), ((a 2), .inl (g 0, 200, .inl (fun _ => 0))), ((a 3), .inl (g 0, 200, .inl (fun _ => 0))), ((a (108 + j_1)), .inr (11, [.ref (a (116 + j_1)), .int (nI 0)])), ((a (116 + j_1)), .inl (g 0, 100, .inl (fun _ => 0)))] H_6 := hP
    have hD : va_D A [((a 0), .inr (13, [.ref (a 1), .ref (a 4), .ref (a 5), .ref (a 6), .ref (a 8), .ref (a 9), .ref (a 12), .ref (a 16), .ref (a 22), .ref (a 43), .ref (a 64), .ref (a 69), .int 0])), ((a 1), .inr (2, [.ref (a 2), .ref (a 3), .int (nI 0)])), ((a 2), .inl (g 0, 200, .inl (fun _ => 0))), ((a 3), .inl (g 0, 200, .inl (fun _ => 0))), ((a (108 + j_1)), .inr (11, [.ref (a (116 + j_1)), .int (nI 0)])), ((a (116 + j_1)), .inl (g 0, 100, .inl (fun _ => 0)))] := hD
    refine lv_iconst (v := 0) hx hb dX11_fill_67 (by decide) ?_
    refine lv_istore (lv' := [(6, .int 0), (5, .ref (a (108 + j_1))), (0, .ref (a 0)), (1, .int x), (2, .int f), (3, .int sp), (4, .int 0)]) hx hb dX11_fill_68 hl (by decide) rfl (fun ls hl => ?_)
    refine lv_iload hx hb dX11_fill_70 (lv_at hl 0 rfl) ?_
    refine lv_iload hx hb dX11_fill_72 (lv_at hl 6 rfl) ?_
    refine lv_icmp_ge (tgt := 102) hx hb dX11_fill_74 (by decide) (fun c_7 => ?_) (fun c_7 => absurd (by decide) c_7)
    refine lv_aload hx hb dX11_fill_102 (lv_at hl 1 rfl) ?_
    refine va_getN (D := (dC, dI)) (ci := 11) (v := .int (nI 0)) (C := RX9) (T := TX9) (N := 2) hx hb hts hiX9 hown hK hP 4 rfl rfl 1 (by decide) (nf_3 hG) (fun _ h9 => h9) rfl dX11_fill_104 ?_
    refine W.widen (k := 8) (n := 48) (by omega) (by omega) ?_
    refine vx_ret ?_
    exact W.iret (v := (nI 0)) hx hb hr (fun t ht hW => ⟨⟨(nI 0), (), rfl, ⟨by simp [TOK_j hj_1 ex_1, hw_2, hw_3, hw_4], by simp [TOK_j hj_1 ex_1, hw_2, hw_3, hw_4], rfl⟩, trivial⟩, hS.F ht⟩) hS.2.2 dX11_fill_107
  · have hne : ¬ mn = 0 := fun h => c_5 (by rw [h]; decide)
    refine lv_aload_n hx hb dX11_fill_41 rfl (lv_at hl 1 rfl) ?_
    refine lv_iload_n hx hb dX11_fill_42 rfl (lv_at hl 3 rfl) ?_
    refine lv_iload_n hx hb dX11_fill_43 rfl (lv_at hl 4 rfl) ?_
    refine lv_iload hx hb dX11_fill_44 (lv_at hl 5 rfl) ?_
    refine lv_iconst (v := 1) hx hb dX11_fill_46 (by decide) ?_
    refine lv_isub hx hb dX11_fill_47 ?_
    refine lv_imul hx hb dX11_fill_48 ?_
    refine lv_iadd hx hb dX11_fill_49 ?_
    refine lv_sipush (v := (-999)) hx hb dX11_fill_50 (by decide) ?_
    refine lv_sipush (v := 999) hx hb dX11_fill_53 (by decide) ?_
    refine vx_callv (vx_runV (As := [.int (f + (sp * (mn - 1))), .int (-999), .int 999]) (rest := []) ⟨hx, hb, hml, hown, hts⟩ (c_X11_demandRange l hlf dC dI g (offW a g) (a 0) (f + (sp * (mn - 1))) (-999) 999   H_4.size) (cwV 3 hts gX11_fill_X11_demandRange rfl rfl rfl (by decide +kernel) ⟨Nat.le_of_ble_eq_true rfl, Nat.le_of_ble_eq_true rfl⟩) ⟨PG_blind, va_recv hK hP (ci := 13) (q0 := 0) rfl (o_0 a g), PG_call hK hG hS hP hD (A_all hD hA hS.1)⟩ rfl rfl hl.1 rfl (lv_room (Nat.le_of_ble_eq_true rfl)) dX11_fill_56 ⟨Nat.le_of_ble_eq_true rfl, Nat.le_of_ble_eq_true rfl⟩) hS (fun q _ h => (A_all hD hA hS.1) q h) (A_all hD hA hS.1) (fun q _ h => (A_all hD hA hS.1) q h) (fun E ce q9 u t H1 locs1 ht hvm hp9 hB9 hz hk hS9 hce hcv hcl => ?_) (fun u_8 t_8 H_8 L_8 ht_8 hvm_8 hw_8 hB_8 hz_8 hk_8 hS => ?_)
    · exact vx_out (fun x hx => (hno x hx).elim) hlocks hce hcv hcl (fun t ht hW => ⟨(), trivial, (by have h9 : E = "java/lang/IllegalArgumentException" ∧ rngb (f + (sp * (mn - 1))) (-999) 999 = false := hB9; exact (Or.inr ⟨h9.1, by simp [TOK_j hj_1 ex_1, hw_2, hw_3, hw_4], by simp [h9.2, hne]⟩)), hS9.F ht⟩) hS9.2.2 (Nat.le_of_ble_eq_true rfl) (Nat.le_of_ble_eq_true rfl)
    replace hB_8 := (show va_P (dC, dI) vwCl (offW a g) t_8.heap from hB_8)
    rw [ht_8] at hB_8
    have hP := hB_8
    refine lv_aload_n hx hb dX11_fill_59 rfl (lv_at hl 1 rfl) ?_
    refine lv_aload hx hb dX11_fill_60 (lv_at hl 0 rfl) ?_
    refine lv_iload hx hb dX11_fill_62 (lv_at hl 5 rfl) ?_
    refine va_callv (va_runV (As := [.ref (a (108 + j_1)), .int mn]) (rest := []) ⟨hx, hb, hml, hown, hts⟩ (c_X11_demandRoom l dC dI g a (a (108 + j_1)) (a (116 + j_1)) (108 + j_1) mn w_1 hw_4 H_8.size) (cwV 2 hts gX11_fill_X11_demandRoom rfl rfl rfl (by decide +kernel) ⟨Nat.le_of_ble_eq_true rfl, Nat.le_of_ble_eq_true rfl⟩) ⟨PG_blind, va_recv hK hP (ci := 13) (q0 := 0) rfl (o_0 a g), PG_call hK hG hS hP hD (A_all hD hA hS.1)⟩ rfl rfl hl.1 rfl (lv_room (Nat.le_of_ble_eq_true rfl)) dX11_fill_64 ⟨Nat.le_of_ble_eq_true rfl, Nat.le_of_ble_eq_true rfl⟩) hS (fun q _ h => (A_all hD hA hS.1) q h) (A_all hD hA hS.1) (fun u_9 t_9 H_9 L_9 ht_9 hvm_9 hw_9 hB_9 hz_9 hk_9 hS => ?_)
    replace hB_9 := (show va_P (dC, dI) vwCl (offW a g) t_9.heap from hB_9)
    rw [ht_9] at hB_9
    have hP := hB_9
    obtain ⟨hP, hD⟩ := off_put a g j_1 hj_1 hP hD
    have hP : va_P (dC, dI) vwCl [((a 0), .inr (13, [.ref (a 1), .ref (a 4), .ref (a 5), .ref (a 6), .ref (a 8), .ref (a 9), .ref (a 12), .ref (a 16), .ref (a 22), .ref (a 43), .ref (a 64), .ref (a 69), .int 0])), ((a 1), .inr (2, [.ref (a 2), .ref (a 3), .int (nI 0)])), ((a 2), .inl (g 0, 200, .inl (fun _ => 0))), ((a 3), .inl (g 0, 200, .inl (fun _ => 0))), ((a (108 + j_1)), .inr (11, [.ref (a (116 + j_1)), .int (nI 0)])), ((a (116 + j_1)), .inl (g 0, 100, .inl (fun _ => 0)))] H_9 := hP
    have hD : va_D A [((a 0), .inr (13, [.ref (a 1), .ref (a 4), .ref (a 5), .ref (a 6), .ref (a 8), .ref (a 9), .ref (a 12), .ref (a 16), .ref (a 22), .ref (a 43), .ref (a 64), .ref (a 69), .int 0])), ((a 1), .inr (2, [.ref (a 2), .ref (a 3), .int (nI 0)])), ((a 2), .inl (g 0, 200, .inl (fun _ => 0))), ((a 3), .inl (g 0, 200, .inl (fun _ => 0))), ((a (108 + j_1)), .inr (11, [.ref (a (116 + j_1)), .int (nI 0)])), ((a (116 + j_1)), .inl (g 0, 100, .inl (fun _ => 0)))] := hD
    refine lv_iconst (v := 0) hx hb dX11_fill_67 (by decide) ?_
    refine lv_istore (lv' := [(6, .int 0), (5, .ref (a (108 + j_1))), (0, .ref (a 0)), (1, .int x), (2, .int f), (3, .int sp), (4, .int mn)]) hx hb dX11_fill_68 hl (by decide) rfl (fun ls hl => ?_)
    obtain ⟨M, hM, rfl⟩ := rng_ex (n := 50) hw_4 (by decide)
    refine W_abs (fun Q hQ => ?_)
    have LOOP70 : ∀ (n i : Nat), i ≤ M → M < i + n → ∀ (fk : Nat → Int32) (fm : Nat → Int32) (fh : Nat → Int32) (H : Heap) (locs : List Loc), va_P (dC, dI) vwCl [((a 0), .inr (13, [.ref (a 1), .ref (a 4), .ref (a 5), .ref (a 6), .ref (a 8), .ref (a 9), .ref (a 12), .ref (a 16), .ref (a 22), .ref (a 43), .ref (a 64), .ref (a 69), .int 0])), ((a 1), .inr (2, [.ref (a 2), .ref (a 3), .int (nI i)])), ((a 2), .inl (g 0, 200, .inl fk)), ((a 3), .inl (g 0, 200, .inl fm)), ((a (108 + j_1)), .inr (11, [.ref (a (116 + j_1)), .int (nI i)])), ((a (116 + j_1)), .inl (g 0, 100, .inl fh))] H → va_D A [((a 0), .inr (13, [.ref (a 1), .ref (a 4), .ref (a 5), .ref (a 6), .ref (a 8), .ref (a 9), .ref (a 12), .ref (a 16), .ref (a 22), .ref (a 43), .ref (a 64), .ref (a 69), .int 0])), ((a 1), .inr (2, [.ref (a 2), .ref (a 3), .int (nI i)])), ((a 2), .inl (g 0, 200, .inl fk)), ((a 3), .inl (g 0, 200, .inl fm)), ((a (108 + j_1)), .inr (11, [.ref (a (116 + j_1)), .int (nI i)])), ((a (116 + j_1)), .inl (g 0, 100, .inl fh))] → va_S A s.heap H locs → ∀ (ls : Array Slot), lv_has ls 7 [(6, .int (nI i)), (0, .ref (a 0)), (1, .int x), (2, .int f), (3, .int sp), (4, .int (nI M)), (5, .ref (a (108 + j_1)))] → W p l e (headSpec wsX11_fill ({ frames := 7, cells := 8, slots := 48, locals := 105 })).room s m ([.ref (a 0), .int x, .int f, .int sp, .int (nI M)] : List Value).toArray below meth c H locs 5 30 Q (F0 m 70 ls []) := by
      intro n
      induction n with
      | zero =>
        intro i h1 h2
        exact absurd h2 (by omega)
      | succ n ih =>
        intro i hi hin fk fm fh H locs hP hD hS ls hl
        refine lv_iload hx hb dX11_fill_70 (lv_at hl 0 rfl) ?_
        refine lv_iload hx hb dX11_fill_72 (lv_at hl 5 rfl) ?_
        refine lv_icmp_ge (tgt := 102) hx hb dX11_fill_74 (by decide) (fun c_10 => ?_) (fun c_10 => ?_)
        · have h9 := (nI_leI (by omega) (by omega)).mp c_10
          obtain rfl : i = M := by omega
          refine lv_aload hx hb dX11_fill_102 (lv_at hl 6 rfl) ?_
          refine va_getN (D := (dC, dI)) (ci := 11) (v := .int (nI i)) (C := RX9) (T := TX9) (N := 2) hx hb hts hiX9 hown hK hP 4 rfl rfl 1 (by decide) (nf_3 hG) (fun _ h9 => h9) rfl dX11_fill_104 ?_
          refine W.widen (k := 8) (n := 48) (by omega) (by omega) ?_
          subst hQ
          refine vx_ret ?_
          exact W.iret (v := (nI i)) hx hb hr (fun t ht hW => ⟨⟨(nI i), (), rfl, ⟨by simp [TOK_j hj_1 ex_1, hw_2, hw_3, hw_4, hw_8], by simp [TOK_j hj_1 ex_1, hw_2, hw_3, hw_4, hw_8], rfl⟩, trivial⟩, hS.F ht⟩) hS.2.2 dX11_fill_107
        · have hlt : i < M := by
            rcases Nat.lt_or_ge i M with q | q
            · exact q
            · exact absurd (nI_le q (by omega)) c_10
          refine lv_aload hx hb dX11_fill_77 (lv_at hl 6 rfl) ?_
          refine lv_aload_n hx hb dX11_fill_79 rfl (lv_at hl 1 rfl) ?_
          refine va_get (D := (dC, dI)) (ci := 13) (v := .ref (a 1)) (C := RX11) (T := TX11) (N := 13) hx hb hts hiX11 hown hK hP 0 rfl rfl 0 (by decide) hf10 (fun _ h9 => h9) rfl dX11_fill_80 ?_
          refine lv_iload_n hx hb dX11_fill_83 rfl (lv_at hl 3 rfl) ?_
          refine lv_iload_n hx hb dX11_fill_84 rfl (lv_at hl 4 rfl) ?_
          refine lv_iload hx hb dX11_fill_85 (lv_at hl 0 rfl) ?_
          refine lv_imul hx hb dX11_fill_87 ?_
          refine lv_topi (fun x_11 ex_11 => ?_)
          refine lv_iadd hx hb dX11_fill_88 ?_
          refine lv_topi (fun x_12 ex_12 => ?_)
          refine lv_iconst (v := 0) hx hb dX11_fill_89 (by decide) ?_
          have hPc := hP.sub (ws' := [((a 1), .inr (2, [.ref (a 2), .ref (a 3), .int (nI i)])), ((a 2), .inl (g 0, 200, .inl fk)), ((a 3), .inl (g 0, 200, .inl fm))]) [1, 2, 3] rfl
          have hDc := hD.sub (ws' := [((a 1), .inr (2, [.ref (a 2), .ref (a 3), .int (nI i)])), ((a 2), .inl (g 0, 200, .inl fk)), ((a 3), .inl (g 0, 200, .inl fm))]) [1, 2, 3] (by decide) rfl
          have hFc := va_free (wc := [((a 1), .inr (2, [.ref (a 2), .ref (a 3), .int (nI i)])), ((a 2), .inl (g 0, 200, .inl fk)), ((a 3), .inl (g 0, 200, .inl fm))]) hD hS hA [1, 2, 3] rfl
          refine va_calli (va_runV (As := [.int x_12, .int 0]) (rest := [.ref (a (108 + j_1))]) ⟨hx, hb, hml, hown, hts⟩ (c_X0_add l dC dI g (a 1) (a 2) (a 3) i fk fm x_12 0 (by omega) H.size) (cwV 2 hts gX11_fill_X0_add rfl rfl rfl (by decide +kernel) ⟨Nat.le_of_ble_eq_true rfl, Nat.le_of_ble_eq_true rfl⟩) ⟨PG_blind, va_recv hK hP (ci := 2) (q0 := 1) rfl rfl, PG_call hK hG hS hPc hDc hFc⟩ rfl rfl hl.1 rfl (lv_room (Nat.le_of_ble_eq_true rfl)) dX11_fill_90 ⟨Nat.le_of_ble_eq_true rfl, Nat.le_of_ble_eq_true rfl⟩) hS (fun q _ h => hFc q h) hFc (fun r_13 u_13 t_13 H_13 L_13 ht_13 hvm_13 hw_13 hB_13 hz_13 hk_13 hS => ?_)
          obtain ⟨hP1, hD1⟩ := hB_13
          rw [ht_13] at hP1
          obtain ⟨hP, hD⟩ := va_join (wr := [((a 0), .inr (13, [.ref (a 1), .ref (a 4), .ref (a 5), .ref (a 6), .ref (a 8), .ref (a 9), .ref (a 12), .ref (a 16), .ref (a 22), .ref (a 43), .ref (a 64), .ref (a 69), .int 0])), ((a (108 + j_1)), .inr (11, [.ref (a (116 + j_1)), .int (nI i)])), ((a (116 + j_1)), .inl (g 0, 100, .inl fh))]) (w1 := [((a 1), .inr (2, [.ref (a 2), .ref (a 3), .int (nI (i + 1))])), ((a 2), .inl (g 0, 200, .inl (upd fk (nI i).toNatClampNeg x_12))), ((a 3), .inl (g 0, 200, .inl (upd fm (nI i).toNatClampNeg 0)))]) hP hD [1, 2, 3] [0, 4, 5] rfl rfl (by decide) (by decide) hk_13 hFc hP1 hD1
          have hP : va_P (dC, dI) vwCl [((a 0), .inr (13, [.ref (a 1), .ref (a 4), .ref (a 5), .ref (a 6), .ref (a 8), .ref (a 9), .ref (a 12), .ref (a 16), .ref (a 22), .ref (a 43), .ref (a 64), .ref (a 69), .int 0])), ((a (108 + j_1)), .inr (11, [.ref (a (116 + j_1)), .int (nI i)])), ((a (116 + j_1)), .inl (g 0, 100, .inl fh)), ((a 1), .inr (2, [.ref (a 2), .ref (a 3), .int (nI (i + 1))])), ((a 2), .inl (g 0, 200, .inl (upd fk (nI i).toNatClampNeg x_12))), ((a 3), .inl (g 0, 200, .inl (upd fm (nI i).toNatClampNeg 0)))] H_13 := hP
          have hD : va_D A [((a 0), .inr (13, [.ref (a 1), .ref (a 4), .ref (a 5), .ref (a 6), .ref (a 8), .ref (a 9), .ref (a 12), .ref (a 16), .ref (a 22), .ref (a 43), .ref (a 64), .ref (a 69), .int 0])), ((a (108 + j_1)), .inr (11, [.ref (a (116 + j_1)), .int (nI i)])), ((a (116 + j_1)), .inl (g 0, 100, .inl fh)), ((a 1), .inr (2, [.ref (a 2), .ref (a 3), .int (nI (i + 1))])), ((a 2), .inl (g 0, 200, .inl (upd fk (nI i).toNatClampNeg x_12))), ((a 3), .inl (g 0, 200, .inl (upd fm (nI i).toNatClampNeg 0)))] := hD
          obtain rfl : r_13 = nI i := hw_13
          have hPc := hP.sub (ws' := [((a (108 + j_1)), .inr (11, [.ref (a (116 + j_1)), .int (nI i)])), ((a (116 + j_1)), .inl (g 0, 100, .inl fh))]) [1, 2] rfl
          have hDc := hD.sub (ws' := [((a (108 + j_1)), .inr (11, [.ref (a (116 + j_1)), .int (nI i)])), ((a (116 + j_1)), .inl (g 0, 100, .inl fh))]) [1, 2] (by decide) rfl
          have hFc := va_free (wc := [((a (108 + j_1)), .inr (11, [.ref (a (116 + j_1)), .int (nI i)])), ((a (116 + j_1)), .inl (g 0, 100, .inl fh))]) hD hS hA [1, 2] rfl
          refine va_callv (va_runV (As := [.int (nI i)]) (rest := []) ⟨hx, hb, hml, hown, hts⟩ (c_X9_add l dC dI g (a (108 + j_1)) (a (116 + j_1)) i fh (nI i) (by omega) H_13.size) (cwV 1 hts gX11_fill_X9_add rfl rfl rfl (by decide +kernel) ⟨Nat.le_of_ble_eq_true rfl, Nat.le_of_ble_eq_true rfl⟩) ⟨PG_blind, va_recv hK hP (ci := 11) (q0 := 1) rfl rfl, PG_call hK hG hS hPc hDc hFc⟩ rfl rfl hl.1 rfl (lv_room (Nat.le_of_ble_eq_true rfl)) dX11_fill_93 ⟨Nat.le_of_ble_eq_true rfl, Nat.le_of_ble_eq_true rfl⟩) hS (fun q _ h => hFc q h) hFc (fun u_14 t_14 H_14 L_14 ht_14 hvm_14 hw_14 hB_14 hz_14 hk_14 hS => ?_)
          obtain ⟨hP1, hD1⟩ := hB_14
          rw [ht_14] at hP1
          obtain ⟨hP, hD⟩ := va_join (wr := [((a 0), .inr (13, [.ref (a 1), .ref (a 4), .ref (a 5), .ref (a 6), .ref (a 8), .ref (a 9), .ref (a 12), .ref (a 16), .ref (a 22), .ref (a 43), .ref (a 64), .ref (a 69), .int 0])), ((a 1), .inr (2, [.ref (a 2), .ref (a 3), .int (nI (i + 1))])), ((a 2), .inl (g 0, 200, .inl (upd fk (nI i).toNatClampNeg x_12))), ((a 3), .inl (g 0, 200, .inl (upd fm (nI i).toNatClampNeg 0)))]) (w1 := [((a (108 + j_1)), .inr (11, [.ref (a (116 + j_1)), .int (nI (i + 1))])), ((a (116 + j_1)), .inl (g 0, 100, .inl (upd fh (nI i).toNatClampNeg (nI i))))]) hP hD [1, 2] [0, 3, 4, 5] rfl rfl (by decide) (by decide) hk_14 hFc hP1 hD1
          have hP : va_P (dC, dI) vwCl [((a 0), .inr (13, [.ref (a 1), .ref (a 4), .ref (a 5), .ref (a 6), .ref (a 8), .ref (a 9), .ref (a 12), .ref (a 16), .ref (a 22), .ref (a 43), .ref (a 64), .ref (a 69), .int 0])), ((a 1), .inr (2, [.ref (a 2), .ref (a 3), .int (nI (i + 1))])), ((a 2), .inl (g 0, 200, .inl (upd fk (nI i).toNatClampNeg x_12))), ((a 3), .inl (g 0, 200, .inl (upd fm (nI i).toNatClampNeg 0))), ((a (108 + j_1)), .inr (11, [.ref (a (116 + j_1)), .int (nI (i + 1))])), ((a (116 + j_1)), .inl (g 0, 100, .inl (upd fh (nI i).toNatClampNeg (nI i))))] H_14 := hP
          have hD : va_D A [((a 0), .inr (13, [.ref (a 1), .ref (a 4), .ref (a 5), .ref (a 6), .ref (a 8), .ref (a 9), .ref (a 12), .ref (a 16), .ref (a 22), .ref (a 43), .ref (a 64), .ref (a 69), .int 0])), ((a 1), .inr (2, [.ref (a 2), .ref (a 3), .int (nI (i + 1))])), ((a 2), .inl (g 0, 200, .inl (upd fk (nI i).toNatClampNeg x_12))), ((a 3), .inl (g 0, 200, .inl (upd fm (nI i).toNatClampNeg 0))), ((a (108 + j_1)), .inr (11, [.ref (a (116 + j_1)), .int (nI (i + 1))])), ((a (116 + j_1)), .inl (g 0, 100, .inl (upd fh (nI i).toNatClampNeg (nI i))))] := hD
          refine lv_iinc (v := (nI (i + 1))) (lv' := [(6, .int (nI (i + 1))), (0, .ref (a 0)), (1, .int x), (2, .int f), (3, .int sp), (4, .int (nI M)), (5, .ref (a (108 + j_1)))]) hx hb dX11_fill_96 hl (k := 0) rfl (nI_1 _) (by decide) rfl (fun ls hl => ?_)
          refine lv_goto (tgt := 70) hx hb dX11_fill_99 (by decide) ?_
          exact ih (i + 1) (by omega) (by omega) (upd fk (nI i).toNatClampNeg x_12) (upd fm (nI i).toNatClampNeg 0) (upd fh (nI i).toNatClampNeg (nI i)) _ _ (hP.sub [0, 1, 2, 3, 4, 5] rfl) (hD.sub [0, 1, 2, 3, 4, 5] (by decide) rfl) hS _ (lv_sub hl [0, 1, 2, 3, 4, 5, 6] rfl)
    exact LOOP70 (M + 1) 0 (Nat.zero_le _) (by omega) (fun _ => 0) (fun _ => 0) (fun _ => 0) _ _ (hP.sub [0, 1, 2, 3, 4, 5] rfl) (hD.sub [0, 1, 2, 3, 4, 5] (by decide) rfl) hS _ (lv_sub hl [0, 2, 3, 4, 5, 6, 1] rfl)
