theorem dX11_scatter_0 : decode cX11_scatter 0 = .ok (.aload_n 0, 1) := by decide +kernel
theorem dX11_scatter_1 : decode cX11_scatter 1 = .ok (.iload_n 1, 1) := by decide +kernel
set_option maxRecDepth 20000 in
theorem ggX11_scatter_X11_tapeOf : GoodIn wsX11_scatter wsX11_tapeOf := goodIn_ca (goodIn_r _ [12, 13, 14, 15, 41, 42, 43, 44, 45, 46, 47, 48, 49, 50, 51, 52, 53] (by decide +kernel) (by decide +kernel)) (goodIn_sub (fun _ h => List.mem_cons_of_mem _ (List.mem_append_left _ (List.mem_append_right _ h))) (by decide +kernel))
set_option maxRecDepth 20000 in
theorem gX11_scatter_X11_tapeOf : GoodIn wsX11_scatter (wsV RX11 86 RX11 yX11_tapeOf wsX11_tapeOf) := goodIn_app (goodIn_of _ (by decide +kernel)) ggX11_scatter_X11_tapeOf
theorem dX11_scatter_2 : decode cX11_scatter 2 = .ok (.invokevirtual 86, 3) := by decide +kernel
theorem dX11_scatter_5 : decode cX11_scatter 5 = .ok (.astore 5, 2) := by decide +kernel
theorem dX11_scatter_7 : decode cX11_scatter 7 = .ok (.aload_n 0, 1) := by decide +kernel
theorem dX11_scatter_8 : decode cX11_scatter 8 = .ok (.iload_n 2, 1) := by decide +kernel
theorem dX11_scatter_9 : decode cX11_scatter 9 = .ok (.iconst 0, 1) := by decide +kernel
theorem dX11_scatter_10 : decode cX11_scatter 10 = .ok (.bipush 50, 2) := by decide +kernel
set_option maxRecDepth 20000 in
theorem ggX11_scatter_X11_demandRange : GoodIn wsX11_scatter wsX11_demandRange := goodIn_ca (goodIn_r _ [19, 1, 2] (by decide +kernel) (by decide +kernel)) (goodIn_sub (fun _ h => List.mem_cons_of_mem _ (List.mem_append_left _ (List.mem_append_left _ (List.mem_append_right _ h)))) (by decide +kernel))
set_option maxRecDepth 20000 in
theorem gX11_scatter_X11_demandRange : GoodIn wsX11_scatter (wsV RX11 90 RX11 yX11_demandRange wsX11_demandRange) := goodIn_app (goodIn_of _ (by decide +kernel)) ggX11_scatter_X11_demandRange
theorem dX11_scatter_12 : decode cX11_scatter 12 = .ok (.invokevirtual 90, 3) := by decide +kernel
theorem dX11_scatter_15 : decode cX11_scatter 15 = .ok (.iload_n 3, 1) := by decide +kernel
theorem dX11_scatter_16 : decode cX11_scatter 16 = .ok (.iconst 1, 1) := by decide +kernel
theorem dX11_scatter_17 : decode cX11_scatter 17 = .ok (.if_icmp .lt 10, 3) := by decide +kernel
theorem dX11_scatter_27 : decode cX11_scatter 27 = .ok (.new 109, 3) := by decide +kernel
theorem dX11_scatter_30 : decode cX11_scatter 30 = .ok (.dup, 1) := by decide +kernel
theorem dX11_scatter_31 : decode cX11_scatter 31 = .ok (.ldc 111, 2) := by decide +kernel
theorem dX11_scatter_33 : decode cX11_scatter 33 = .ok (.invokespecial 113, 3) := by decide +kernel
theorem dX11_scatter_36 : decode cX11_scatter 36 = .ok (.athrow, 1) := by decide +kernel
theorem dX11_scatter_20 : decode cX11_scatter 20 = .ok (.iload_n 3, 1) := by decide +kernel
theorem dX11_scatter_21 : decode cX11_scatter 21 = .ok (.sipush 999, 3) := by decide +kernel
theorem dX11_scatter_24 : decode cX11_scatter 24 = .ok (.if_icmp .le 13, 3) := by decide +kernel
theorem dX11_scatter_37 : decode cX11_scatter 37 = .ok (.aload_n 0, 1) := by decide +kernel
theorem dX11_scatter_38 : decode cX11_scatter 38 = .ok (.iload 4, 2) := by decide +kernel
theorem dX11_scatter_40 : decode cX11_scatter 40 = .ok (.iconst 0, 1) := by decide +kernel
theorem dX11_scatter_41 : decode cX11_scatter 41 = .ok (.ldc 118, 2) := by decide +kernel
theorem dX11_scatter_43 : decode cX11_scatter 43 = .ok (.invokevirtual 90, 3) := by decide +kernel
theorem dX11_scatter_46 : decode cX11_scatter 46 = .ok (.aload_n 0, 1) := by decide +kernel
theorem dX11_scatter_47 : decode cX11_scatter 47 = .ok (.aload 5, 2) := by decide +kernel
theorem dX11_scatter_49 : decode cX11_scatter 49 = .ok (.iload_n 2, 1) := by decide +kernel
set_option maxRecDepth 20000 in
theorem ggX11_scatter_X11_demandRoom : GoodIn wsX11_scatter wsX11_demandRoom := goodIn_ca (goodIn_r _ [23, 24, 25, 7, 41, 42, 43, 44, 45, 46, 47, 48, 49, 50, 51, 52, 53, 56, 57, 58, 54, 55] (by decide +kernel) (by decide +kernel)) (goodIn_sub (fun _ h => List.mem_cons_of_mem _ (List.mem_append_right _ h)) (by decide +kernel))
set_option maxRecDepth 20000 in
theorem gX11_scatter_X11_demandRoom : GoodIn wsX11_scatter (wsV RX11 94 RX11 yX11_demandRoom wsX11_demandRoom) := goodIn_app (goodIn_of _ (by decide +kernel)) ggX11_scatter_X11_demandRoom
theorem dX11_scatter_50 : decode cX11_scatter 50 = .ok (.invokevirtual 94, 3) := by decide +kernel
theorem dX11_scatter_53 : decode cX11_scatter 53 = .ok (.iload 4, 2) := by decide +kernel
theorem dX11_scatter_55 : decode cX11_scatter 55 = .ok (.i2l, 1) := by decide +kernel
theorem dX11_scatter_56 : decode cX11_scatter 56 = .ok (.lstore 6, 2) := by decide +kernel
theorem dX11_scatter_58 : decode cX11_scatter 58 = .ok (.iconst 0, 1) := by decide +kernel
theorem dX11_scatter_59 : decode cX11_scatter 59 = .ok (.istore 8, 2) := by decide +kernel
theorem dX11_scatter_61 : decode cX11_scatter 61 = .ok (.iload 8, 2) := by decide +kernel
theorem dX11_scatter_63 : decode cX11_scatter 63 = .ok (.iload_n 2, 1) := by decide +kernel
theorem dX11_scatter_64 : decode cX11_scatter 64 = .ok (.if_icmp .ge 47, 3) := by decide +kernel
theorem dX11_scatter_111 : decode cX11_scatter 111 = .ok (.aload 5, 2) := by decide +kernel
theorem dX11_scatter_113 : decode cX11_scatter 113 = .ok (.getfield 105, 3) := by decide +kernel
theorem dX11_scatter_116 : decode cX11_scatter 116 = .ok (.ireturn, 1) := by decide +kernel
theorem dX11_scatter_67 : decode cX11_scatter 67 = .ok (.lload 6, 2) := by decide +kernel
theorem dX11_scatter_69 : decode cX11_scatter 69 = .ok (.ldc2_w 119, 3) := by decide +kernel
theorem dX11_scatter_72 : decode cX11_scatter 72 = .ok (.lmul, 1) := by decide +kernel
theorem dX11_scatter_73 : decode cX11_scatter 73 = .ok (.ldc2_w 121, 3) := by decide +kernel
theorem dX11_scatter_76 : decode cX11_scatter 76 = .ok (.ladd, 1) := by decide +kernel
theorem dX11_scatter_77 : decode cX11_scatter 77 = .ok (.ldc2_w 123, 3) := by decide +kernel
theorem dX11_scatter_80 : decode cX11_scatter 80 = .ok (.land, 1) := by decide +kernel
theorem dX11_scatter_81 : decode cX11_scatter 81 = .ok (.lstore 6, 2) := by decide +kernel
theorem dX11_scatter_83 : decode cX11_scatter 83 = .ok (.aload 5, 2) := by decide +kernel
theorem dX11_scatter_85 : decode cX11_scatter 85 = .ok (.aload_n 0, 1) := by decide +kernel
theorem dX11_scatter_86 : decode cX11_scatter 86 = .ok (.getfield 10, 3) := by decide +kernel
theorem dX11_scatter_89 : decode cX11_scatter 89 = .ok (.lload 6, 2) := by decide +kernel
theorem dX11_scatter_91 : decode cX11_scatter 91 = .ok (.bipush 16, 2) := by decide +kernel
theorem dX11_scatter_93 : decode cX11_scatter 93 = .ok (.lshr, 1) := by decide +kernel
theorem dX11_scatter_94 : decode cX11_scatter 94 = .ok (.iload_n 3, 1) := by decide +kernel
theorem dX11_scatter_95 : decode cX11_scatter 95 = .ok (.i2l, 1) := by decide +kernel
theorem dX11_scatter_96 : decode cX11_scatter 96 = .ok (.lrem, 1) := by decide +kernel
theorem dX11_scatter_97 : decode cX11_scatter 97 = .ok (.l2i, 1) := by decide +kernel
theorem dX11_scatter_98 : decode cX11_scatter 98 = .ok (.iconst 0, 1) := by decide +kernel
set_option maxRecDepth 20000 in
theorem ggX11_scatter_X0_add : GoodIn wsX11_scatter wsX0_add := goodIn_r _ [30, 31, 32, 33, 56, 57, 58] (by decide +kernel) (by decide +kernel)
set_option maxRecDepth 20000 in
theorem gX11_scatter_X0_add : GoodIn wsX11_scatter (wsV RX11 98 RX0 yX0_add wsX0_add) := goodIn_app (goodIn_of _ (by decide +kernel)) ggX11_scatter_X0_add
theorem dX11_scatter_99 : decode cX11_scatter 99 = .ok (.invokevirtual 98, 3) := by decide +kernel
set_option maxRecDepth 20000 in
theorem ggX11_scatter_X9_add : GoodIn wsX11_scatter wsX9_add := goodIn_r _ [38, 39, 40, 54, 55] (by decide +kernel) (by decide +kernel)
set_option maxRecDepth 20000 in
theorem gX11_scatter_X9_add : GoodIn wsX11_scatter (wsV RX11 102 RX9 yX9_add wsX9_add) := goodIn_app (goodIn_of _ (by decide +kernel)) ggX11_scatter_X9_add
theorem dX11_scatter_102 : decode cX11_scatter 102 = .ok (.invokevirtual 102, 3) := by decide +kernel
theorem dX11_scatter_105 : decode cX11_scatter 105 = .ok (.iinc 8 1, 3) := by decide +kernel
theorem dX11_scatter_108 : decode cX11_scatter 108 = .ok (.goto (-47), 3) := by decide +kernel
set_option maxHeartbeats 4000000 in
set_option maxRecDepth 100000 in
theorem c_X11_scatter (l : Launch) (hlf : l.stackTraces = false) (dC : Nat → ClassId) (dI : Nat → Nat → Nat) (g : Nat → ClassId) (a : Nat → Nat) (x : Int32) (mn : Int32) (rg : Int32) (sd : Int32) (sz : Nat) : vx_Met l yX11_scatter wsX11_scatter ({ frames := 7, cells := 8, slots := 48, locals := 105 }) (va_Pc [.ref (a 0), .int x, .int mn, .int rg, .int sd] (PG (dC, dI) g (offW a g) sz)) (va_Qi (fun (r : Int32) (_ : Unit) => (TOKb x) = true ∧ (rngb mn 0 50 && rngb rg 1 999 && rngb sd 0 2147483647) = true ∧ r = mn) (fun (_ : Unit) (_ : State) => True) (va_A (offW a g) sz)) (vx_X (fun _ : Unit => True) (fun E _ _ => (E = "java/lang/IndexOutOfBoundsException" ∧ (TOKb x) = false) ∨ (E = "java/lang/IllegalArgumentException" ∧ TOKb x = true ∧ (rngb mn 0 50 && rngb rg 1 999 && rngb sd 0 2147483647) = false)) (va_A (offW a g) sz)) 8 48 (va_A (offW a g) sz) := by
  refine vx_ofW (cc := cX11_scatter) (maxL := 9) (ret := (some .int)) (by decide) rfl ?_
  intro p e s m args below meth c s₁ B hml hno hv
  obtain ⟨rfl, hsz, hP, hK, hD0, hG⟩ := hv
  have hx := B.exec
  have hb := B.bytes
  have hr := B.returns
  have hts := atoms_spec (ws := wsX11_scatter) B.pre
  have hown : s.vm.findClass RX11 = some m.cls := findClass_of_methodNamed B.named
  have hlocks := B.notSynchronized
  subst hsz
  have hD := hD0.self (sz := s.heap.size)
  generalize hAe : va_A (offW a g) s.heap.size = A at hD hG ⊢
  have hA : ∀ q : Nat, s.heap.size ≤ q → A q := fun q h => by rw [← hAe]; exact Or.inr h
  have hS : va_S A s.heap s.heap [] := va_S.rf
  have hl := lv_entry ([.ref (a 0), .int x, .int mn, .int rg, .int sd]) (n := 9) (Nat.le_of_ble_eq_true rfl)
  rw [lg_entry_eq]
  generalize (lg_sl ([.ref (a 0), .int x, .int mn, .int rg, .int sd]) ++ List.replicate (9 - (lg_sl ([.ref (a 0), .int x, .int mn, .int rg, .int sd])).length) Slot.unset).toArray = ls at hl ⊢
  have hl : lv_has ls 9 [(0, .ref (a 0)), (1, .int x), (2, .int mn), (3, .int rg), (4, .int sd)] := hl
  have hcl109 := hts (Cond.classLink RX11 109 "java/lang/IllegalArgumentException") (by decide +kernel)
  have hini_IllegalArgumentException := hts (Cond.initialized "java/lang/IllegalArgumentException") (by decide +kernel)
  have hk118 := hts (Jvm.Cond.constant RX11 118 2147483647) (by decide +kernel)
  have hiX9 : ∀ w ∈ u_ws RX9 TX9 2, w ∈ wsX11_scatter := by decide +kernel
  have hk119 := hts (Jvm.Cond.constantLong RX11 119 1103515245) (by decide +kernel)
  have hk121 := hts (Jvm.Cond.constantLong RX11 121 12345) (by decide +kernel)
  have hk123 := hts (Jvm.Cond.constantLong RX11 123 2147483647) (by decide +kernel)
  have hf10 := hts (Cond.fieldLink RX11 10 "RunmergeOffice" "book" "LRunmergeOffice$Book;") (by decide +kernel)
  have hiX11 : ∀ w ∈ u_ws RX11 TX11 13, w ∈ wsX11_scatter := by decide +kernel
  refine lv_aload_n hx hb dX11_scatter_0 rfl (lv_at hl 0 rfl) ?_
  refine lv_iload_n hx hb dX11_scatter_1 rfl (lv_at hl 1 rfl) ?_
  refine vx_callq (vx_runV (As := [.int x]) (rest := []) ⟨hx, hb, hml, hown, hts⟩ (c_X11_tapeOf l hlf dC dI g (offW a g) (a 0) (a 1) (a 4) (a 5) (a 6) (a 8) (a 9) (a 12) (a 16) (a 22) (a 43) (a 64) (a 69) 0 (va_up (va_up (va_up (va_up (va_up (va_up (va_up (va_up (fun _ => none) 0 (some (a 108))) 1 (some (a 109))) 2 (some (a 110))) 3 (some (a 111))) 4 (some (a 112))) 5 (some (a 113))) 6 (some (a 114))) 7 (some (a 115))) (fun j => a (108 + j)) x 0 (o_0 a g) 4 (o_4 a g) (tp_at a) s.heap.size) (cwV 1 hts gX11_scatter_X11_tapeOf rfl rfl rfl (by decide +kernel) ⟨Nat.le_of_ble_eq_true rfl, Nat.le_of_ble_eq_true rfl⟩) ⟨PG_blind, va_recv hK hP (ci := 13) (q0 := 0) rfl (o_0 a g), PG_call hK hG hS hP hD (A_all hD hA hS.1)⟩ rfl rfl hl.1 rfl (lv_room (Nat.le_of_ble_eq_true rfl)) dX11_scatter_2 ⟨Nat.le_of_ble_eq_true rfl, Nat.le_of_ble_eq_true rfl⟩) hS (fun q _ h => (A_all hD hA hS.1) q h) (A_all hD hA hS.1) (fun q _ h => (A_all hD hA hS.1) q h) (fun E ce q9 u t H1 locs1 ht hvm hp9 hB9 hz hk hS9 hce hcv hcl => ?_) (fun r_1 u_1 t_1 H_1 L_1 ht_1 hvm_1 hw_1 hB_1 hz_1 hk_1 hS => ?_)
  · exact vx_out (fun x hx => (hno x hx).elim) hlocks hce hcv hcl (fun t ht hW => ⟨(), trivial, (by have h9 : E = "java/lang/IndexOutOfBoundsException" ∧ TOKb x = false := hB9; exact (Or.inl ⟨h9.1, by simp [h9.2]⟩)), hS9.F ht⟩) hS9.2.2 (Nat.le_of_ble_eq_true rfl) (Nat.le_of_ble_eq_true rfl)
  replace hB_1 := (show va_P (dC, dI) vwCl (offW a g) t_1.heap from hB_1)
  rw [ht_1] at hB_1
  have hP := hB_1
  obtain ⟨j_1, hj_1, ex_1, rfl⟩ := hw_1
  have w_1 := o_tape a g j_1 hj_1
  refine lv_astore (lv' := [(5, .ref (a (108 + j_1))), (0, .ref (a 0)), (1, .int x), (2, .int mn), (3, .int rg), (4, .int sd)]) hx hb dX11_scatter_5 hl (by decide) rfl (fun ls hl => ?_)
  refine lv_aload_n hx hb dX11_scatter_7 rfl (lv_at hl 1 rfl) ?_
  refine lv_iload_n hx hb dX11_scatter_8 rfl (lv_at hl 3 rfl) ?_
  refine lv_iconst (v := 0) hx hb dX11_scatter_9 (by decide) ?_
  refine lv_bipush (v := 50) hx hb dX11_scatter_10 (by decide) ?_
  refine vx_callv (vx_runV (As := [.int mn, .int 0, .int 50]) (rest := []) ⟨hx, hb, hml, hown, hts⟩ (c_X11_demandRange l hlf dC dI g (offW a g) (a 0) mn 0 50   H_1.size) (cwV 3 hts gX11_scatter_X11_demandRange rfl rfl rfl (by decide +kernel) ⟨Nat.le_of_ble_eq_true rfl, Nat.le_of_ble_eq_true rfl⟩) ⟨PG_blind, va_recv hK hP (ci := 13) (q0 := 0) rfl (o_0 a g), PG_call hK hG hS hP hD (A_all hD hA hS.1)⟩ rfl rfl hl.1 rfl (lv_room (Nat.le_of_ble_eq_true rfl)) dX11_scatter_12 ⟨Nat.le_of_ble_eq_true rfl, Nat.le_of_ble_eq_true rfl⟩) hS (fun q _ h => (A_all hD hA hS.1) q h) (A_all hD hA hS.1) (fun q _ h => (A_all hD hA hS.1) q h) (fun E ce q9 u t H1 locs1 ht hvm hp9 hB9 hz hk hS9 hce hcv hcl => ?_) (fun u_2 t_2 H_2 L_2 ht_2 hvm_2 hw_2 hB_2 hz_2 hk_2 hS => ?_)
  · exact vx_out (fun x hx => (hno x hx).elim) hlocks hce hcv hcl (fun t ht hW => ⟨(), trivial, (by have h9 : E = "java/lang/IllegalArgumentException" ∧ rngb mn 0 50 = false := hB9; exact (Or.inr ⟨h9.1, by simp [TOK_j hj_1 ex_1], by simp [h9.2]⟩)), hS9.F ht⟩) hS9.2.2 (Nat.le_of_ble_eq_true rfl) (Nat.le_of_ble_eq_true rfl)
  replace hB_2 := (show va_P (dC, dI) vwCl (offW a g) t_2.heap from hB_2)
  rw [ht_2] at hB_2
  have hP := hB_2
  refine lv_iload_n hx hb dX11_scatter_15 rfl (lv_at hl 4 rfl) ?_
  refine lv_iconst (v := 1) hx hb dX11_scatter_16 (by decide) ?_
  refine lv_icmp_lt (tgt := 27) hx hb dX11_scatter_17 (by decide) (fun c_3 => ?_) (fun c_3 => ?_)
  · obtain ⟨sa, hsa⟩ := st_21 hG
    exact vx_throwS hx hb hlf (own := RX11) (cls := "java/lang/IllegalArgumentException") (text := "the range is out of range") (names := ["java/lang/RuntimeException", "java/lang/Exception"]) (ik := 109) (is := 111) (ic := 113) hown rfl (by decide) hcl109 hini_IllegalArgumentException hsa (vx_hat (B := [.castable "java/lang/IllegalArgumentException" "java/lang/IllegalArgumentException", .declares (Bundle.initS "java/lang/RuntimeException"), .declares (Bundle.initS "java/lang/Exception"), .declares (Bundle.initS "java/lang/Throwable")]) (fun w h => hts w (List.mem_cons_of_mem _ (by first | exact List.mem_append_right _ h | exact List.mem_append_left _ (List.mem_append_right _ h) | exact List.mem_append_left _ (List.mem_append_left _ (List.mem_append_right _ h))))) (by decide +kernel) (vx_c (xc_1 hG) (vx_c (dc_0 hG) (vx_c (dc_1 hG) (vx_c (dc_2 hG) vx_n))))) (by decide +kernel) hG.2.2.2.1 hG.2.2.2.2.1 hS (hl.1.trans hml.symm) dX11_scatter_27 dX11_scatter_30 dX11_scatter_31 dX11_scatter_33 dX11_scatter_36 (fun x hx => (hno x hx).elim) (Nat.le_of_ble_eq_true rfl) (Nat.le_of_ble_eq_true rfl) (Nat.le_of_ble_eq_true rfl) (Nat.le_of_ble_eq_true rfl) hlocks (fun t hW hz hk => ⟨(), trivial, (Or.inr ⟨rfl, by simp [TOK_j hj_1 ex_1, hw_2], by simp [(rng_lo c_3 : rngb rg 1 999 = false)]⟩), F_of hS hz hk⟩) hS.2.2 (Nat.le_of_ble_eq_true rfl) (Nat.le_of_ble_eq_true rfl)
  · refine lv_iload_n hx hb dX11_scatter_20 rfl (lv_at hl 4 rfl) ?_
    refine lv_sipush (v := 999) hx hb dX11_scatter_21 (by decide) ?_
    refine lv_icmp_le (tgt := 37) hx hb dX11_scatter_24 (by decide) (fun c_4 => ?_) (fun c_4 => ?_)
    · have hrg : rngb rg 1 999 = true := rng_t c_3 (i_nlt.mpr c_4)
      refine lv_aload_n hx hb dX11_scatter_37 rfl (lv_at hl 1 rfl) ?_
      refine lv_iload hx hb dX11_scatter_38 (lv_at hl 5 rfl) ?_
      refine lv_iconst (v := 0) hx hb dX11_scatter_40 (by decide) ?_
      refine lv_ldc hx hb hown hk118 dX11_scatter_41 ?_
      refine vx_callv (vx_runV (As := [.int sd, .int 0, .int 2147483647]) (rest := []) ⟨hx, hb, hml, hown, hts⟩ (c_X11_demandRange l hlf dC dI g (offW a g) (a 0) sd 0 2147483647   H_2.size) (cwV 3 hts gX11_scatter_X11_demandRange rfl rfl rfl (by decide +kernel) ⟨Nat.le_of_ble_eq_true rfl, Nat.le_of_ble_eq_true rfl⟩) ⟨PG_blind, va_recv hK hP (ci := 13) (q0 := 0) rfl (o_0 a g), PG_call hK hG hS hP hD (A_all hD hA hS.1)⟩ rfl rfl hl.1 rfl (lv_room (Nat.le_of_ble_eq_true rfl)) dX11_scatter_43 ⟨Nat.le_of_ble_eq_true rfl, Nat.le_of_ble_eq_true rfl⟩) hS (fun q _ h => (A_all hD hA hS.1) q h) (A_all hD hA hS.1) (fun q _ h => (A_all hD hA hS.1) q h) (fun E ce q9 u t H1 locs1 ht hvm hp9 hB9 hz hk hS9 hce hcv hcl => ?_) (fun u_5 t_5 H_5 L_5 ht_5 hvm_5 hw_5 hB_5 hz_5 hk_5 hS => ?_)
      · exact vx_out (fun x hx => (hno x hx).elim) hlocks hce hcv hcl (fun t ht hW => ⟨(), trivial, (by have h9 : E = "java/lang/IllegalArgumentException" ∧ rngb sd 0 2147483647 = false := hB9; exact (Or.inr ⟨h9.1, by simp [TOK_j hj_1 ex_1, hw_2, hrg], by simp [h9.2]⟩)), hS9.F ht⟩) hS9.2.2 (Nat.le_of_ble_eq_true rfl) (Nat.le_of_ble_eq_true rfl)
      replace hB_5 := (show va_P (dC, dI) vwCl (offW a g) t_5.heap from hB_5)
      rw [ht_5] at hB_5
      have hP := hB_5
      refine lv_aload_n hx hb dX11_scatter_46 rfl (lv_at hl 1 rfl) ?_
      refine lv_aload hx hb dX11_scatter_47 (lv_at hl 0 rfl) ?_
      refine lv_iload_n hx hb dX11_scatter_49 rfl (lv_at hl 3 rfl) ?_
      refine va_callv (va_runV (As := [.ref (a (108 + j_1)), .int mn]) (rest := []) ⟨hx, hb, hml, hown, hts⟩ (c_X11_demandRoom l dC dI g a (a (108 + j_1)) (a (116 + j_1)) (108 + j_1) mn w_1 hw_2 H_5.size) (cwV 2 hts gX11_scatter_X11_demandRoom rfl rfl rfl (by decide +kernel) ⟨Nat.le_of_ble_eq_true rfl, Nat.le_of_ble_eq_true rfl⟩) ⟨PG_blind, va_recv hK hP (ci := 13) (q0 := 0) rfl (o_0 a g), PG_call hK hG hS hP hD (A_all hD hA hS.1)⟩ rfl rfl hl.1 rfl (lv_room (Nat.le_of_ble_eq_true rfl)) dX11_scatter_50 ⟨Nat.le_of_ble_eq_true rfl, Nat.le_of_ble_eq_true rfl⟩) hS (fun q _ h => (A_all hD hA hS.1) q h) (A_all hD hA hS.1) (fun u_6 t_6 H_6 L_6 ht_6 hvm_6 hw_6 hB_6 hz_6 hk_6 hS => ?_)
      replace hB_6 := (show va_P (dC, dI) vwCl (offW a g) t_6.heap from hB_6)
      rw [ht_6] at hB_6
      have hP := hB_6
      obtain ⟨hP, hD⟩ := off_put a g j_1 hj_1 hP hD
      have hP : va_P (dC, dI) vwCl [((a 0), .inr (13, [.ref (a 1), .ref (a 4), .ref (a 5), .ref (a 6), .ref (a 8), .ref (a 9), .ref (a 12), .ref (a 16), .ref (a 22), .ref (a 43), .ref (a 64), .ref (a 69), .int 0])), ((a 1), .inr (2, [.ref (a 2), .ref (a 3), .int (nI 0)])), ((a 2), .inl (g 0, 200, .inl (fun _ => 0))), ((a 3), .inl (g 0, 200, .inl (fun _ => 0))), ((a (108 + j_1)), .inr (11, [.ref (a (116 + j_1)), .int (nI 0)])), ((a (116 + j_1)), .inl (g 0, 100, .inl (fun _ => 0)))] H_6 := hP
      have hD : va_D A [((a 0), .inr (13, [.ref (a 1), .ref (a 4), .ref (a 5), .ref (a 6), .ref (a 8), .ref (a 9), .ref (a 12), .ref (a 16), .ref (a 22), .ref (a 43), .ref (a 64), .ref (a 69), .int 0])), ((a 1), .inr (2, [.ref (a 2), .ref (a 3), .int (nI 0)])), ((a 2), .inl (g 0, 200, .inl (fun _ => 0))), ((a 3), .inl (g 0, 200, .inl (fun _ => 0))), ((a (108 + j_1)), .inr (11, [.ref (a (116 + j_1)), .int (nI 0)])), ((a (116 + j_1)), .inl (g 0, 100, .inl (fun _ => 0)))] := hD
      refine lv_iload hx hb dX11_scatter_53 (lv_at hl 5 rfl) ?_
      refine lv_i2l (v := sd.toInt64) hx hb dX11_scatter_55 rfl ?_
      refine lv_lstore (lv' := [(6, .long sd.toInt64), (5, .ref (a (108 + j_1))), (0, .ref (a 0)), (1, .int x), (2, .int mn), (3, .int rg), (4, .int sd)]) hx hb dX11_scatter_56 hl (by decide) rfl (fun ls hl => ?_)
      refine lv_iconst (v := 0) hx hb dX11_scatter_58 (by decide) ?_
      refine lv_istore (lv' := [(8, .int 0), (6, .long sd.toInt64), (5, .ref (a (108 + j_1))), (0, .ref (a 0)), (1, .int x), (2, .int mn), (3, .int rg), (4, .int sd)]) hx hb dX11_scatter_59 hl (by decide) rfl (fun ls hl => ?_)
      obtain ⟨M, hM, rfl⟩ := rng_ex (n := 50) hw_2 (by decide)
      refine W_abs (fun Q hQ => ?_)
      have LOOP61 : ∀ (n i : Nat), i ≤ M → M < i + n → ∀ (fk : Nat → Int32) (fm : Nat → Int32) (fh : Nat → Int32) (xl : Int64) (H : Heap) (locs : List Loc), va_P (dC, dI) vwCl [((a 0), .inr (13, [.ref (a 1), .ref (a 4), .ref (a 5), .ref (a 6), .ref (a 8), .ref (a 9), .ref (a 12), .ref (a 16), .ref (a 22), .ref (a 43), .ref (a 64), .ref (a 69), .int 0])), ((a 1), .inr (2, [.ref (a 2), .ref (a 3), .int (nI i)])), ((a 2), .inl (g 0, 200, .inl fk)), ((a 3), .inl (g 0, 200, .inl fm)), ((a (108 + j_1)), .inr (11, [.ref (a (116 + j_1)), .int (nI i)])), ((a (116 + j_1)), .inl (g 0, 100, .inl fh))] H → va_D A [((a 0), .inr (13, [.ref (a 1), .ref (a 4), .ref (a 5), .ref (a 6), .ref (a 8), .ref (a 9), .ref (a 12), .ref (a 16), .ref (a 22), .ref (a 43), .ref (a 64), .ref (a 69), .int 0])), ((a 1), .inr (2, [.ref (a 2), .ref (a 3), .int (nI i)])), ((a 2), .inl (g 0, 200, .inl fk)), ((a 3), .inl (g 0, 200, .inl fm)), ((a (108 + j_1)), .inr (11, [.ref (a (116 + j_1)), .int (nI i)])), ((a (116 + j_1)), .inl (g 0, 100, .inl fh))] → va_S A s.heap H locs → ∀ (ls : Array Slot), lv_has ls 9 [(8, .int (nI i)), (0, .ref (a 0)), (1, .int x), (2, .int (nI M)), (3, .int rg), (4, .int sd), (5, .ref (a (108 + j_1))), (6, .long xl)] → W p l e (headSpec wsX11_scatter ({ frames := 7, cells := 8, slots := 48, locals := 105 })).room s m ([.ref (a 0), .int x, .int (nI M), .int rg, .int sd] : List Value).toArray below meth c H locs 3 18 Q (F0 m 61 ls []) := by
        intro n
        induction n with
        | zero =>
          intro i h1 h2
          exact absurd h2 (by omega)
        | succ n ih =>
          intro i hi hin fk fm fh xl H locs hP hD hS ls hl
          refine lv_iload hx hb dX11_scatter_61 (lv_at hl 0 rfl) ?_
          refine lv_iload_n hx hb dX11_scatter_63 rfl (lv_at hl 3 rfl) ?_
          refine lv_icmp_ge (tgt := 111) hx hb dX11_scatter_64 (by decide) (fun c_7 => ?_) (fun c_7 => ?_)
          · have h9 := (nI_leI (by omega) (by omega)).mp c_7
            obtain rfl : i = M := by omega
            refine lv_aload hx hb dX11_scatter_111 (lv_at hl 6 rfl) ?_
            refine va_getN (D := (dC, dI)) (ci := 11) (v := .int (nI i)) (C := RX9) (T := TX9) (N := 2) hx hb hts hiX9 hown hK hP 4 rfl rfl 1 (by decide) (nf_3 hG) (fun _ h9 => h9) rfl dX11_scatter_113 ?_
            refine W.widen (k := 8) (n := 48) (by omega) (by omega) ?_
            subst hQ
            refine vx_ret ?_
            exact W.iret (v := (nI i)) hx hb hr (fun t ht hW => ⟨⟨(nI i), (), rfl, ⟨by simp [TOK_j hj_1 ex_1, hw_2, hrg, hw_5], by simp [TOK_j hj_1 ex_1, hw_2, hrg, hw_5], rfl⟩, trivial⟩, hS.F ht⟩) hS.2.2 dX11_scatter_116
          · have hlt : i < M := by
              rcases Nat.lt_or_ge i M with q | q
              · exact q
              · exact absurd (nI_le q (by omega)) c_7
            refine lv_lload hx hb dX11_scatter_67 (lv_at hl 7 rfl) ?_
            refine lv_ldc2 hx hb hown hk119 dX11_scatter_69 ?_
            refine lv_lmul hx hb dX11_scatter_72 ?_
            refine lv_topl (fun x_8 ex_8 => ?_)
            refine lv_ldc2 hx hb hown hk121 dX11_scatter_73 ?_
            refine lv_ladd hx hb dX11_scatter_76 ?_
            refine lv_topl (fun x_9 ex_9 => ?_)
            refine lv_ldc2 hx hb hown hk123 dX11_scatter_77 ?_
            refine lv_land hx hb dX11_scatter_80 ?_
            refine lv_topl (fun x_10 ex_10 => ?_)
            refine lv_lstore (lv' := [(6, .long x_10), (8, .int (nI i)), (0, .ref (a 0)), (1, .int x), (2, .int (nI M)), (3, .int rg), (4, .int sd), (5, .ref (a (108 + j_1)))]) hx hb dX11_scatter_81 hl (by decide) rfl (fun ls hl => ?_)
            refine lv_aload hx hb dX11_scatter_83 (lv_at hl 7 rfl) ?_
            refine lv_aload_n hx hb dX11_scatter_85 rfl (lv_at hl 2 rfl) ?_
            refine va_get (D := (dC, dI)) (ci := 13) (v := .ref (a 1)) (C := RX11) (T := TX11) (N := 13) hx hb hts hiX11 hown hK hP 0 rfl rfl 0 (by decide) hf10 (fun _ h9 => h9) rfl dX11_scatter_86 ?_
            refine lv_lload hx hb dX11_scatter_89 (lv_at hl 0 rfl) ?_
            refine lv_bipush (v := 16) hx hb dX11_scatter_91 (by decide) ?_
            refine lv_lshr hx hb dX11_scatter_93 rfl ?_
            refine lv_topl (fun x_11 ex_11 => ?_)
            refine lv_iload_n hx hb dX11_scatter_94 rfl (lv_at hl 5 rfl) ?_
            refine lv_i2l (v := rg.toInt64) hx hb dX11_scatter_95 rfl ?_
            refine lv_lrem hx hb dX11_scatter_96 (rg_ne hrg) ?_
            refine lv_topl (fun x_12 ex_12 => ?_)
            refine lv_l2i (v := x_12.toInt32) hx hb dX11_scatter_97 rfl ?_
            refine lv_topi (fun x_13 ex_13 => ?_)
            refine lv_iconst (v := 0) hx hb dX11_scatter_98 (by decide) ?_
            have hPc := hP.sub (ws' := [((a 1), .inr (2, [.ref (a 2), .ref (a 3), .int (nI i)])), ((a 2), .inl (g 0, 200, .inl fk)), ((a 3), .inl (g 0, 200, .inl fm))]) [1, 2, 3] rfl
            have hDc := hD.sub (ws' := [((a 1), .inr (2, [.ref (a 2), .ref (a 3), .int (nI i)])), ((a 2), .inl (g 0, 200, .inl fk)), ((a 3), .inl (g 0, 200, .inl fm))]) [1, 2, 3] (by decide) rfl
            have hFc := va_free (wc := [((a 1), .inr (2, [.ref (a 2), .ref (a 3), .int (nI i)])), ((a 2), .inl (g 0, 200, .inl fk)), ((a 3), .inl (g 0, 200, .inl fm))]) hD hS hA [1, 2, 3] rfl
            refine va_calli (va_runV (As := [.int x_13, .int 0]) (rest := [.ref (a (108 + j_1))]) ⟨hx, hb, hml, hown, hts⟩ (c_X0_add l dC dI g (a 1) (a 2) (a 3) i fk fm x_13 0 (by omega) H.size) (cwV 2 hts gX11_scatter_X0_add rfl rfl rfl (by decide +kernel) ⟨Nat.le_of_ble_eq_true rfl, Nat.le_of_ble_eq_true rfl⟩) ⟨PG_blind, va_recv hK hP (ci := 2) (q0 := 1) rfl rfl, PG_call hK hG hS hPc hDc hFc⟩ rfl rfl hl.1 rfl (lv_room (Nat.le_of_ble_eq_true rfl)) dX11_scatter_99 ⟨Nat.le_of_ble_eq_true rfl, Nat.le_of_ble_eq_true rfl⟩) hS (fun q _ h => hFc q h) hFc (fun r_14 u_14 t_14 H_14 L_14 ht_14 hvm_14 hw_14 hB_14 hz_14 hk_14 hS => ?_)
            obtain ⟨hP1, hD1⟩ := hB_14
            rw [ht_14] at hP1
            obtain ⟨hP, hD⟩ := va_join (wr := [((a 0), .inr (13, [.ref (a 1), .ref (a 4), .ref (a 5), .ref (a 6), .ref (a 8), .ref (a 9), .ref (a 12), .ref (a 16), .ref (a 22), .ref (a 43), .ref (a 64), .ref (a 69), .int 0])), ((a (108 + j_1)), .inr (11, [.ref (a (116 + j_1)), .int (nI i)])), ((a (116 + j_1)), .inl (g 0, 100, .inl fh))]) (w1 := [((a 1), .inr (2, [.ref (a 2), .ref (a 3), .int (nI (i + 1))])), ((a 2), .inl (g 0, 200, .inl (upd fk (nI i).toNatClampNeg x_13))), ((a 3), .inl (g 0, 200, .inl (upd fm (nI i).toNatClampNeg 0)))]) hP hD [1, 2, 3] [0, 4, 5] rfl rfl (by decide) (by decide) hk_14 hFc hP1 hD1
            have hP : va_P (dC, dI) vwCl [((a 0), .inr (13, [.ref (a 1), .ref (a 4), .ref (a 5), .ref (a 6), .ref (a 8), .ref (a 9), .ref (a 12), .ref (a 16), .ref (a 22), .ref (a 43), .ref (a 64), .ref (a 69), .int 0])), ((a (108 + j_1)), .inr (11, [.ref (a (116 + j_1)), .int (nI i)])), ((a (116 + j_1)), .inl (g 0, 100, .inl fh)), ((a 1), .inr (2, [.ref (a 2), .ref (a 3), .int (nI (i + 1))])), ((a 2), .inl (g 0, 200, .inl (upd fk (nI i).toNatClampNeg x_13))), ((a 3), .inl (g 0, 200, .inl (upd fm (nI i).toNatClampNeg 0)))] H_14 := hP
            have hD : va_D A [((a 0), .inr (13, [.ref (a 1), .ref (a 4), .ref (a 5), .ref (a 6), .ref (a 8), .ref (a 9), .ref (a 12), .ref (a 16), .ref (a 22), .ref (a 43), .ref (a 64), .ref (a 69), .int 0])), ((a (108 + j_1)), .inr (11, [.ref (a (116 + j_1)), .int (nI i)])), ((a (116 + j_1)), .inl (g 0, 100, .inl fh)), ((a 1), .inr (2, [.ref (a 2), .ref (a 3), .int (nI (i + 1))])), ((a 2), .inl (g 0, 200, .inl (upd fk (nI i).toNatClampNeg x_13))), ((a 3), .inl (g 0, 200, .inl (upd fm (nI i).toNatClampNeg 0)))] := hD
            obtain rfl : r_14 = nI i := hw_14
            have hPc := hP.sub (ws' := [((a (108 + j_1)), .inr (11, [.ref (a (116 + j_1)), .int (nI i)])), ((a (116 + j_1)), .inl (g 0, 100, .inl fh))]) [1, 2] rfl
            have hDc := hD.sub (ws' := [((a (108 + j_1)), .inr (11, [.ref (a (116 + j_1)), .int (nI i)])), ((a (116 + j_1)), .inl (g 0, 100, .inl fh))]) [1, 2] (by decide) rfl
            have hFc := va_free (wc := [((a (108 + j_1)), .inr (11, [.ref (a (116 + j_1)), .int (nI i)])), ((a (116 + j_1)), .inl (g 0, 100, .inl fh))]) hD hS hA [1, 2] rfl
            refine va_callv (va_runV (As := [.int (nI i)]) (rest := []) ⟨hx, hb, hml, hown, hts⟩ (c_X9_add l dC dI g (a (108 + j_1)) (a (116 + j_1)) i fh (nI i) (by omega) H_14.size) (cwV 1 hts gX11_scatter_X9_add rfl rfl rfl (by decide +kernel) ⟨Nat.le_of_ble_eq_true rfl, Nat.le_of_ble_eq_true rfl⟩) ⟨PG_blind, va_recv hK hP (ci := 11) (q0 := 1) rfl rfl, PG_call hK hG hS hPc hDc hFc⟩ rfl rfl hl.1 rfl (lv_room (Nat.le_of_ble_eq_true rfl)) dX11_scatter_102 ⟨Nat.le_of_ble_eq_true rfl, Nat.le_of_ble_eq_true rfl⟩) hS (fun q _ h => hFc q h) hFc (fun u_15 t_15 H_15 L_15 ht_15 hvm_15 hw_15 hB_15 hz_15 hk_15 hS => ?_)
            obtain ⟨hP1, hD1⟩ := hB_15
            rw [ht_15] at hP1
            obtain ⟨hP, hD⟩ := va_join (wr := [((a 0), .inr (13, [.ref (a 1), .ref (a 4), .ref (a 5), .ref (a 6), .ref (a 8), .ref (a 9), .ref (a 12), .ref (a 16), .ref (a 22), .ref (a 43), .ref (a 64), .ref (a 69), .int 0])), ((a 1), .inr (2, [.ref (a 2), .ref (a 3), .int (nI (i + 1))])), ((a 2), .inl (g 0, 200, .inl (upd fk (nI i).toNatClampNeg x_13))), ((a 3), .inl (g 0, 200, .inl (upd fm (nI i).toNatClampNeg 0)))]) (w1 := [((a (108 + j_1)), .inr (11, [.ref (a (116 + j_1)), .int (nI (i + 1))])), ((a (116 + j_1)), .inl (g 0, 100, .inl (upd fh (nI i).toNatClampNeg (nI i))))]) hP hD [1, 2] [0, 3, 4, 5] rfl rfl (by decide) (by decide) hk_15 hFc hP1 hD1
            have hP : va_P (dC, dI) vwCl [((a 0), .inr (13, [.ref (a 1), .ref (a 4), .ref (a 5), .ref (a 6), .ref (a 8), .ref (a 9), .ref (a 12), .ref (a 16), .ref (a 22), .ref (a 43), .ref (a 64), .ref (a 69), .int 0])), ((a 1), .inr (2, [.ref (a 2), .ref (a 3), .int (nI (i + 1))])), ((a 2), .inl (g 0, 200, .inl (upd fk (nI i).toNatClampNeg x_13))), ((a 3), .inl (g 0, 200, .inl (upd fm (nI i).toNatClampNeg 0))), ((a (108 + j_1)), .inr (11, [.ref (a (116 + j_1)), .int (nI (i + 1))])), ((a (116 + j_1)), .inl (g 0, 100, .inl (upd fh (nI i).toNatClampNeg (nI i))))] H_15 := hP
            have hD : va_D A [((a 0), .inr (13, [.ref (a 1), .ref (a 4), .ref (a 5), .ref (a 6), .ref (a 8), .ref (a 9), .ref (a 12), .ref (a 16), .ref (a 22), .ref (a 43), .ref (a 64), .ref (a 69), .int 0])), ((a 1), .inr (2, [.ref (a 2), .ref (a 3), .int (nI (i + 1))])), ((a 2), .inl (g 0, 200, .inl (upd fk (nI i).toNatClampNeg x_13))), ((a 3), .inl (g 0, 200, .inl (upd fm (nI i).toNatClampNeg 0))), ((a (108 + j_1)), .inr (11, [.ref (a (116 + j_1)), .int (nI (i + 1))])), ((a (116 + j_1)), .inl (g 0, 100, .inl (upd fh (nI i).toNatClampNeg (nI i))))] := hD
            refine lv_iinc (v := (nI (i + 1))) (lv' := [(8, .int (nI (i + 1))), (6, .long x_10), (0, .ref (a 0)), (1, .int x), (2, .int (nI M)), (3, .int rg), (4, .int sd), (5, .ref (a (108 + j_1)))]) hx hb dX11_scatter_105 hl (k := 1) rfl (nI_1 _) (by decide) rfl (fun ls hl => ?_)
            refine lv_goto (tgt := 61) hx hb dX11_scatter_108 (by decide) ?_
            exact ih (i + 1) (by omega) (by omega) (upd fk (nI i).toNatClampNeg x_13) (upd fm (nI i).toNatClampNeg 0) (upd fh (nI i).toNatClampNeg (nI i)) x_10 _ _ (hP.sub [0, 1, 2, 3, 4, 5] rfl) (hD.sub [0, 1, 2, 3, 4, 5] (by decide) rfl) hS _ (lv_sub hl [0, 2, 3, 4, 5, 6, 7, 1] rfl)
      exact LOOP61 (M + 1) 0 (Nat.zero_le _) (by omega) (fun _ => 0) (fun _ => 0) (fun _ => 0) sd.toInt64 _ _ (hP.sub [0, 1, 2, 3, 4, 5] rfl) (hD.sub [0, 1, 2, 3, 4, 5] (by decide) rfl) hS _ (lv_sub hl [0, 3, 4, 5, 6, 7, 2, 1] rfl)
    · obtain ⟨sa, hsa⟩ := st_21 hG
      exact vx_throwS hx hb hlf (own := RX11) (cls := "java/lang/IllegalArgumentException") (text := "the range is out of range") (names := ["java/lang/RuntimeException", "java/lang/Exception"]) (ik := 109) (is := 111) (ic := 113) hown rfl (by decide) hcl109 hini_IllegalArgumentException hsa (vx_hat (B := [.castable "java/lang/IllegalArgumentException" "java/lang/IllegalArgumentException", .declares (Bundle.initS "java/lang/RuntimeException"), .declares (Bundle.initS "java/lang/Exception"), .declares (Bundle.initS "java/lang/Throwable")]) (fun w h => hts w (List.mem_cons_of_mem _ (by first | exact List.mem_append_right _ h | exact List.mem_append_left _ (List.mem_append_right _ h) | exact List.mem_append_left _ (List.mem_append_left _ (List.mem_append_right _ h))))) (by decide +kernel) (vx_c (xc_1 hG) (vx_c (dc_0 hG) (vx_c (dc_1 hG) (vx_c (dc_2 hG) vx_n))))) (by decide +kernel) hG.2.2.2.1 hG.2.2.2.2.1 hS (hl.1.trans hml.symm) dX11_scatter_27 dX11_scatter_30 dX11_scatter_31 dX11_scatter_33 dX11_scatter_36 (fun x hx => (hno x hx).elim) (Nat.le_of_ble_eq_true rfl) (Nat.le_of_ble_eq_true rfl) (Nat.le_of_ble_eq_true rfl) (Nat.le_of_ble_eq_true rfl) hlocks (fun t hW hz hk => ⟨(), trivial, (Or.inr ⟨rfl, by simp [TOK_j hj_1 ex_1, hw_2], by simp [(rng_hi (i_nle.mp c_4) : rngb rg 1 999 = false)]⟩), F_of hS hz hk⟩) hS.2.2 (Nat.le_of_ble_eq_true rfl) (Nat.le_of_ble_eq_true rfl)
