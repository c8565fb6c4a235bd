theorem dX11_setRuns_0 : decode cX11_setRuns 0 = .ok (.aload_n 0, 1) := by decide +kernel
theorem dX11_setRuns_1 : decode cX11_setRuns 1 = .ok (.iload_n 1, 1) := by decide +kernel
theorem dX11_setRuns_2 : decode cX11_setRuns 2 = .ok (.iconst 0, 1) := by decide +kernel
theorem dX11_setRuns_3 : decode cX11_setRuns 3 = .ok (.iconst 1, 1) := by decide +kernel
set_option maxRecDepth 20000 in
theorem ggX11_setRuns_X11_demandRange : GoodIn wsX11_setRuns wsX11_demandRange := goodIn_ca (goodIn_r _ [6, 7, 8] (by decide +kernel) (by decide +kernel)) (goodIn_sub (fun _ h => List.mem_cons_of_mem _ (List.mem_append_right _ h)) (by decide +kernel))
set_option maxRecDepth 20000 in
theorem gX11_setRuns_X11_demandRange : GoodIn wsX11_setRuns (wsV RX11 90 RX11 yX11_demandRange wsX11_demandRange) := goodIn_app (goodIn_of _ (by decide +kernel)) ggX11_setRuns_X11_demandRange
theorem dX11_setRuns_4 : decode cX11_setRuns 4 = .ok (.invokevirtual 90, 3) := by decide +kernel
theorem dX11_setRuns_7 : decode cX11_setRuns 7 = .ok (.aload_n 0, 1) := by decide +kernel
theorem dX11_setRuns_8 : decode cX11_setRuns 8 = .ok (.iload_n 2, 1) := by decide +kernel
theorem dX11_setRuns_9 : decode cX11_setRuns 9 = .ok (.iconst 0, 1) := by decide +kernel
theorem dX11_setRuns_10 : decode cX11_setRuns 10 = .ok (.iconst 2, 1) := by decide +kernel
theorem dX11_setRuns_11 : decode cX11_setRuns 11 = .ok (.invokevirtual 90, 3) := by decide +kernel
theorem dX11_setRuns_14 : decode cX11_setRuns 14 = .ok (.aload_n 0, 1) := by decide +kernel
theorem dX11_setRuns_15 : decode cX11_setRuns 15 = .ok (.iload_n 3, 1) := by decide +kernel
theorem dX11_setRuns_16 : decode cX11_setRuns 16 = .ok (.iconst 1, 1) := by decide +kernel
theorem dX11_setRuns_17 : decode cX11_setRuns 17 = .ok (.bipush 50, 2) := by decide +kernel
theorem dX11_setRuns_19 : decode cX11_setRuns 19 = .ok (.invokevirtual 90, 3) := by decide +kernel
theorem dX11_setRuns_22 : decode cX11_setRuns 22 = .ok (.aload_n 0, 1) := by decide +kernel
theorem dX11_setRuns_23 : decode cX11_setRuns 23 = .ok (.getfield 33, 3) := by decide +kernel
theorem dX11_setRuns_26 : decode cX11_setRuns 26 = .ok (.getfield 160, 3) := by decide +kernel
theorem dX11_setRuns_29 : decode cX11_setRuns 29 = .ok (.istore 4, 2) := by decide +kernel
theorem dX11_setRuns_31 : decode cX11_setRuns 31 = .ok (.aload_n 0, 1) := by decide +kernel
theorem dX11_setRuns_32 : decode cX11_setRuns 32 = .ok (.getfield 33, 3) := by decide +kernel
theorem dX11_setRuns_35 : decode cX11_setRuns 35 = .ok (.iload_n 1, 1) := by decide +kernel
theorem dX11_setRuns_36 : decode cX11_setRuns 36 = .ok (.putfield 163, 3) := by decide +kernel
theorem dX11_setRuns_39 : decode cX11_setRuns 39 = .ok (.aload_n 0, 1) := by decide +kernel
theorem dX11_setRuns_40 : decode cX11_setRuns 40 = .ok (.getfield 33, 3) := by decide +kernel
theorem dX11_setRuns_43 : decode cX11_setRuns 43 = .ok (.iload_n 2, 1) := by decide +kernel
theorem dX11_setRuns_44 : decode cX11_setRuns 44 = .ok (.putfield 166, 3) := by decide +kernel
theorem dX11_setRuns_47 : decode cX11_setRuns 47 = .ok (.aload_n 0, 1) := by decide +kernel
theorem dX11_setRuns_48 : decode cX11_setRuns 48 = .ok (.getfield 33, 3) := by decide +kernel
theorem dX11_setRuns_51 : decode cX11_setRuns 51 = .ok (.iload_n 3, 1) := by decide +kernel
theorem dX11_setRuns_52 : decode cX11_setRuns 52 = .ok (.putfield 160, 3) := by decide +kernel
theorem dX11_setRuns_55 : decode cX11_setRuns 55 = .ok (.iload 4, 2) := by decide +kernel
theorem dX11_setRuns_57 : decode cX11_setRuns 57 = .ok (.ireturn, 1) := by decide +kernel
theorem dX11_setMerge_0 : decode cX11_setMerge 0 = .ok (.aload_n 0, 1) := by decide +kernel
theorem dX11_setMerge_1 : decode cX11_setMerge 1 = .ok (.iload_n 1, 1) := by decide +kernel
theorem dX11_setMerge_2 : decode cX11_setMerge 2 = .ok (.iconst 0, 1) := by decide +kernel
theorem dX11_setMerge_3 : decode cX11_setMerge 3 = .ok (.iconst 2, 1) := by decide +kernel
set_option maxRecDepth 20000 in
theorem ggX11_setMerge_X11_demandRange : GoodIn wsX11_setMerge wsX11_demandRange := goodIn_ca (goodIn_r _ [6, 7, 8] (by decide +kernel) (by decide +kernel)) (goodIn_sub (fun _ h => List.mem_cons_of_mem _ (List.mem_append_right _ h)) (by decide +kernel))
set_option maxRecDepth 20000 in
theorem gX11_setMerge_X11_demandRange : GoodIn wsX11_setMerge (wsV RX11 90 RX11 yX11_demandRange wsX11_demandRange) := goodIn_app (goodIn_of _ (by decide +kernel)) ggX11_setMerge_X11_demandRange
theorem dX11_setMerge_4 : decode cX11_setMerge 4 = .ok (.invokevirtual 90, 3) := by decide +kernel
theorem dX11_setMerge_7 : decode cX11_setMerge 7 = .ok (.aload_n 0, 1) := by decide +kernel
theorem dX11_setMerge_8 : decode cX11_setMerge 8 = .ok (.iload_n 2, 1) := by decide +kernel
theorem dX11_setMerge_9 : decode cX11_setMerge 9 = .ok (.iconst 2, 1) := by decide +kernel
theorem dX11_setMerge_10 : decode cX11_setMerge 10 = .ok (.bipush 6, 2) := by decide +kernel
theorem dX11_setMerge_12 : decode cX11_setMerge 12 = .ok (.invokevirtual 90, 3) := by decide +kernel
theorem dX11_setMerge_15 : decode cX11_setMerge 15 = .ok (.aload_n 0, 1) := by decide +kernel
theorem dX11_setMerge_16 : decode cX11_setMerge 16 = .ok (.getfield 33, 3) := by decide +kernel
theorem dX11_setMerge_19 : decode cX11_setMerge 19 = .ok (.getfield 169, 3) := by decide +kernel
theorem dX11_setMerge_22 : decode cX11_setMerge 22 = .ok (.istore_n 3, 1) := by decide +kernel
theorem dX11_setMerge_23 : decode cX11_setMerge 23 = .ok (.aload_n 0, 1) := by decide +kernel
theorem dX11_setMerge_24 : decode cX11_setMerge 24 = .ok (.getfield 33, 3) := by decide +kernel
theorem dX11_setMerge_27 : decode cX11_setMerge 27 = .ok (.iload_n 1, 1) := by decide +kernel
theorem dX11_setMerge_28 : decode cX11_setMerge 28 = .ok (.putfield 172, 3) := by decide +kernel
theorem dX11_setMerge_31 : decode cX11_setMerge 31 = .ok (.aload_n 0, 1) := by decide +kernel
theorem dX11_setMerge_32 : decode cX11_setMerge 32 = .ok (.getfield 33, 3) := by decide +kernel
theorem dX11_setMerge_35 : decode cX11_setMerge 35 = .ok (.iload_n 2, 1) := by decide +kernel
theorem dX11_setMerge_36 : decode cX11_setMerge 36 = .ok (.putfield 169, 3) := by decide +kernel
theorem dX11_setMerge_39 : decode cX11_setMerge 39 = .ok (.iload_n 3, 1) := by decide +kernel
theorem dX11_setMerge_40 : decode cX11_setMerge 40 = .ok (.ireturn, 1) := by decide +kernel
theorem dX11_setting_0 : decode cX11_setting 0 = .ok (.iload_n 1, 1) := by decide +kernel
theorem dX11_setting_1 : decode cX11_setting 1 = .ok (.tableswitch 75 0 4 #[35, 43, 51, 59, 67], 35) := by decide +kernel
theorem dX11_setting_36 : decode cX11_setting 36 = .ok (.aload_n 0, 1) := by decide +kernel
theorem dX11_setting_37 : decode cX11_setting 37 = .ok (.getfield 33, 3) := by decide +kernel
theorem dX11_setting_40 : decode cX11_setting 40 = .ok (.getfield 163, 3) := by decide +kernel
theorem dX11_setting_43 : decode cX11_setting 43 = .ok (.ireturn, 1) := by decide +kernel
theorem dX11_setting_44 : decode cX11_setting 44 = .ok (.aload_n 0, 1) := by decide +kernel
theorem dX11_setting_45 : decode cX11_setting 45 = .ok (.getfield 33, 3) := by decide +kernel
theorem dX11_setting_48 : decode cX11_setting 48 = .ok (.getfield 166, 3) := by decide +kernel
theorem dX11_setting_51 : decode cX11_setting 51 = .ok (.ireturn, 1) := by decide +kernel
theorem dX11_setting_52 : decode cX11_setting 52 = .ok (.aload_n 0, 1) := by decide +kernel
theorem dX11_setting_53 : decode cX11_setting 53 = .ok (.getfield 33, 3) := by decide +kernel
theorem dX11_setting_56 : decode cX11_setting 56 = .ok (.getfield 160, 3) := by decide +kernel
theorem dX11_setting_59 : decode cX11_setting 59 = .ok (.ireturn, 1) := by decide +kernel
theorem dX11_setting_60 : decode cX11_setting 60 = .ok (.aload_n 0, 1) := by decide +kernel
theorem dX11_setting_61 : decode cX11_setting 61 = .ok (.getfield 33, 3) := by decide +kernel
theorem dX11_setting_64 : decode cX11_setting 64 = .ok (.getfield 172, 3) := by decide +kernel
theorem dX11_setting_67 : decode cX11_setting 67 = .ok (.ireturn, 1) := by decide +kernel
theorem dX11_setting_68 : decode cX11_setting 68 = .ok (.aload_n 0, 1) := by decide +kernel
theorem dX11_setting_69 : decode cX11_setting 69 = .ok (.getfield 33, 3) := by decide +kernel
theorem dX11_setting_72 : decode cX11_setting 72 = .ok (.getfield 169, 3) := by decide +kernel
theorem dX11_setting_75 : decode cX11_setting 75 = .ok (.ireturn, 1) := by decide +kernel
theorem dX11_setting_76 : decode cX11_setting 76 = .ok (.new 109, 3) := by decide +kernel
theorem dX11_setting_79 : decode cX11_setting 79 = .ok (.dup, 1) := by decide +kernel
theorem dX11_setting_80 : decode cX11_setting 80 = .ok (.ldc 175, 2) := by decide +kernel
theorem dX11_setting_82 : decode cX11_setting 82 = .ok (.invokespecial 113, 3) := by decide +kernel
theorem dX11_setting_85 : decode cX11_setting 85 = .ok (.athrow, 1) := by decide +kernel
set_option maxHeartbeats 4000000 in
set_option maxRecDepth 100000 in
theorem c_X11_setRuns (l : Launch) (hlf : l.stackTraces = false) (dC : Nat → ClassId) (dI : Nat → Nat → Nat) (g : Nat → ClassId) (a : Nat → Nat) (x : Int32) (rw : Int32) (me : Int32) (sz : Nat) : vx_Met l yX11_setRuns wsX11_setRuns ({ frames := 7, cells := 8, slots := 48, locals := 105 }) (va_Pc [.ref (a 0), .int x, .int rw, .int me] (PG (dC, dI) g (offW a g) sz)) (va_Qi (fun (r : Int32) (_ : Unit) => (rngb x 0 1 && rngb rw 0 2 && rngb me 1 50) = true ∧ r = 4) (fun (_ : Unit) (_ : State) => True) (va_A (offW a g) sz)) (vx_X (fun _ : Unit => True) (fun E _ _ => E = "java/lang/IllegalArgumentException" ∧ (rngb x 0 1 && rngb rw 0 2 && rngb me 1 50) = false) (va_A (offW a g) sz)) 8 48 (va_A (offW a g) sz) := by
  refine vx_ofW (cc := cX11_setRuns) (maxL := 5) (ret := (some .int)) (by decide) rfl ?_
  intro p e s m args below meth c s₁ B hml hno hv
  obtain ⟨rfl, hsz, hP, hK, hD0, hG⟩ := hv
  have hx := B.exec
  have hb := B.bytes
  have hr := B.returns
  have hts := atoms_spec (ws := wsX11_setRuns) B.pre
  have hown : s.vm.findClass RX11 = some m.cls := findClass_of_methodNamed B.named
  have hlocks := B.notSynchronized
  subst hsz
  have hD := hD0.self (sz := s.heap.size)
  generalize hAe : va_A (offW a g) s.heap.size = A at hD hG ⊢
  have hA : ∀ q : Nat, s.heap.size ≤ q → A q := fun q h => by rw [← hAe]; exact Or.inr h
  have hS : va_S A s.heap s.heap [] := va_S.rf
  have hl := lv_entry ([.ref (a 0), .int x, .int rw, .int me]) (n := 5) (Nat.le_of_ble_eq_true rfl)
  rw [lg_entry_eq]
  generalize (lg_sl ([.ref (a 0), .int x, .int rw, .int me]) ++ List.replicate (5 - (lg_sl ([.ref (a 0), .int x, .int rw, .int me])).length) Slot.unset).toArray = ls at hl ⊢
  have hl : lv_has ls 5 [(0, .ref (a 0)), (1, .int x), (2, .int rw), (3, .int me)] := hl
  have hf33 := hts (Cond.fieldLink RX11 33 "RunmergeOffice" "settings" "LRunmergeOffice$Settings;") (by decide +kernel)
  have hiX11 : ∀ w ∈ u_ws RX11 TX11 13, w ∈ wsX11_setRuns := by decide +kernel
  have hiX8 : ∀ w ∈ u_ws RX8 TX8 5, w ∈ wsX11_setRuns := by decide +kernel
  refine lv_aload_n hx hb dX11_setRuns_0 rfl (lv_at hl 0 rfl) ?_
  refine lv_iload_n hx hb dX11_setRuns_1 rfl (lv_at hl 1 rfl) ?_
  refine lv_iconst (v := 0) hx hb dX11_setRuns_2 (by decide) ?_
  refine lv_iconst (v := 1) hx hb dX11_setRuns_3 (by decide) ?_
  refine vx_callv (vx_runV (As := [.int x, .int 0, .int 1]) (rest := []) ⟨hx, hb, hml, hown, hts⟩ (c_X11_demandRange l hlf dC dI g (offW a g) (a 0) x 0 1   s.heap.size) (cwV 3 hts gX11_setRuns_X11_demandRange rfl rfl rfl (by decide +kernel) ⟨Nat.le_of_ble_eq_true rfl, Nat.le_of_ble_eq_true rfl⟩) ⟨PG_blind, va_recv hK hP (ci := 13) (q0 := 0) rfl (o_0 a g), PG_call hK hG hS hP hD (A_all hD hA hS.1)⟩ rfl rfl hl.1 rfl (lv_room (Nat.le_of_ble_eq_true rfl)) dX11_setRuns_4 ⟨Nat.le_of_ble_eq_true rfl, Nat.le_of_ble_eq_true rfl⟩) hS (fun q _ h => (A_all hD hA hS.1) q h) (A_all hD hA hS.1) (fun q _ h => (A_all hD hA hS.1) q h) (fun E ce q9 u t H1 locs1 ht hvm hp9 hB9 hz hk hS9 hce hcv hcl => ?_) (fun u_1 t_1 H_1 L_1 ht_1 hvm_1 hw_1 hB_1 hz_1 hk_1 hS => ?_)
  · exact vx_out (fun x hx => (hno x hx).elim) hlocks hce hcv hcl (fun t ht hW => ⟨(), trivial, (by have h9 : E = "java/lang/IllegalArgumentException" ∧ rngb x 0 1 = false := hB9; exact ⟨h9.1, by simp [h9.2]⟩), hS9.F ht⟩) hS9.2.2 (Nat.le_of_ble_eq_true rfl) (Nat.le_of_ble_eq_true rfl)
  replace hB_1 := (show va_P (dC, dI) vwCl (offW a g) t_1.heap from hB_1)
  rw [ht_1] at hB_1
  have hP := hB_1
  refine lv_aload_n hx hb dX11_setRuns_7 rfl (lv_at hl 0 rfl) ?_
  refine lv_iload_n hx hb dX11_setRuns_8 rfl (lv_at hl 2 rfl) ?_
  refine lv_iconst (v := 0) hx hb dX11_setRuns_9 (by decide) ?_
  refine lv_iconst (v := 2) hx hb dX11_setRuns_10 (by decide) ?_
  refine vx_callv (vx_runV (As := [.int rw, .int 0, .int 2]) (rest := []) ⟨hx, hb, hml, hown, hts⟩ (c_X11_demandRange l hlf dC dI g (offW a g) (a 0) rw 0 2   H_1.size) (cwV 3 hts gX11_setRuns_X11_demandRange rfl rfl rfl (by decide +kernel) ⟨Nat.le_of_ble_eq_true rfl, Nat.le_of_ble_eq_true rfl⟩) ⟨PG_blind, va_recv hK hP (ci := 13) (q0 := 0) rfl (o_0 a g), PG_call hK hG hS hP hD (A_all hD hA hS.1)⟩ rfl rfl hl.1 rfl (lv_room (Nat.le_of_ble_eq_true rfl)) dX11_setRuns_11 ⟨Nat.le_of_ble_eq_true rfl, Nat.le_of_ble_eq_true rfl⟩) hS (fun q _ h => (A_all hD hA hS.1) q h) (A_all hD hA hS.1) (fun q _ h => (A_all hD hA hS.1) q h) (fun E ce q9 u t H1 locs1 ht hvm hp9 hB9 hz hk hS9 hce hcv hcl => ?_) (fun u_2 t_2 H_2 L_2 ht_2 hvm_2 hw_2 hB_2 hz_2 hk_2 hS => ?_)
  · exact vx_out (fun x hx => (hno x hx).elim) hlocks hce hcv hcl (fun t ht hW => ⟨(), trivial, (by have h9 : E = "java/lang/IllegalArgumentException" ∧ rngb rw 0 2 = false := hB9; exact ⟨h9.1, by simp [h9.2]⟩), hS9.F ht⟩) hS9.2.2 (Nat.le_of_ble_eq_true rfl) (Nat.le_of_ble_eq_true rfl)
  replace hB_2 := (show va_P (dC, dI) vwCl (offW a g) t_2.heap from hB_2)
  rw [ht_2] at hB_2
  have hP := hB_2
  refine lv_aload_n hx hb dX11_setRuns_14 rfl (lv_at hl 0 rfl) ?_
  refine lv_iload_n hx hb dX11_setRuns_15 rfl (lv_at hl 3 rfl) ?_
  refine lv_iconst (v := 1) hx hb dX11_setRuns_16 (by decide) ?_
  refine lv_bipush (v := 50) hx hb dX11_setRuns_17 (by decide) ?_
  refine vx_callv (vx_runV (As := [.int me, .int 1, .int 50]) (rest := []) ⟨hx, hb, hml, hown, hts⟩ (c_X11_demandRange l hlf dC dI g (offW a g) (a 0) me 1 50   H_2.size) (cwV 3 hts gX11_setRuns_X11_demandRange rfl rfl rfl (by decide +kernel) ⟨Nat.le_of_ble_eq_true rfl, Nat.le_of_ble_eq_true rfl⟩) ⟨PG_blind, va_recv hK hP (ci := 13) (q0 := 0) rfl (o_0 a g), PG_call hK hG hS hP hD (A_all hD hA hS.1)⟩ rfl rfl hl.1 rfl (lv_room (Nat.le_of_ble_eq_true rfl)) dX11_setRuns_19 ⟨Nat.le_of_ble_eq_true rfl, Nat.le_of_ble_eq_true rfl⟩) hS (fun q _ h => (A_all hD hA hS.1) q h) (A_all hD hA hS.1) (fun q _ h => (A_all hD hA hS.1) q h) (fun E ce q9 u t H1 locs1 ht hvm hp9 hB9 hz hk hS9 hce hcv hcl => ?_) (fun u_3 t_3 H_3 L_3 ht_3 hvm_3 hw_3 hB_3 hz_3 hk_3 hS => ?_)
  · exact vx_out (fun x hx => (hno x hx).elim) hlocks hce hcv hcl (fun t ht hW => ⟨(), trivial, (by have h9 : E = "java/lang/IllegalArgumentException" ∧ rngb me 1 50 = false := hB9; exact ⟨h9.1, by simp [h9.2]⟩), hS9.F ht⟩) hS9.2.2 (Nat.le_of_ble_eq_true rfl) (Nat.le_of_ble_eq_true rfl)
  replace hB_3 := (show va_P (dC, dI) vwCl (offW a g) t_3.heap from hB_3)
  rw [ht_3] at hB_3
  have hP := hB_3
  replace hP := hP.sub (ws' := [((a 0), .inr (13, [.ref (a 1), .ref (a 4), .ref (a 5), .ref (a 6), .ref (a 8), .ref (a 9), .ref (a 12), .ref (a 16), .ref (a 22), .ref (a 43), .ref (a 64), .ref (a 69), .int 0])), ((a 8), .inr (10, [.int 0, .int 1, .int 4, .int 0, .int 2]))]) [0, 8] rfl
  replace hD := hD.sub (ws' := [((a 0), .inr (13, [.ref (a 1), .ref (a 4), .ref (a 5), .ref (a 6), .ref (a 8), .ref (a 9), .ref (a 12), .ref (a 16), .ref (a 22), .ref (a 43), .ref (a 64), .ref (a 69), .int 0])), ((a 8), .inr (10, [.int 0, .int 1, .int 4, .int 0, .int 2]))]) [0, 8] (by decide) rfl
  have hP : va_P (dC, dI) vwCl [((a 0), .inr (13, [.ref (a 1), .ref (a 4), .ref (a 5), .ref (a 6), .ref (a 8), .ref (a 9), .ref (a 12), .ref (a 16), .ref (a 22), .ref (a 43), .ref (a 64), .ref (a 69), .int 0])), ((a 8), .inr (10, [.int 0, .int 1, .int 4, .int 0, .int 2]))] H_3 := hP
  have hD : va_D A [((a 0), .inr (13, [.ref (a 1), .ref (a 4), .ref (a 5), .ref (a 6), .ref (a 8), .ref (a 9), .ref (a 12), .ref (a 16), .ref (a 22), .ref (a 43), .ref (a 64), .ref (a 69), .int 0])), ((a 8), .inr (10, [.int 0, .int 1, .int 4, .int 0, .int 2]))] := hD
  refine lv_aload_n hx hb dX11_setRuns_22 rfl (lv_at hl 0 rfl) ?_
  refine va_get (D := (dC, dI)) (ci := 13) (v := .ref (a 8)) (C := RX11) (T := TX11) (N := 13) hx hb hts hiX11 hown hK hP 0 rfl rfl 4 (by decide) hf33 (fun _ h9 => h9) rfl dX11_setRuns_23 ?_
  refine va_getN (D := (dC, dI)) (ci := 10) (v := .int 4) (C := RX8) (T := TX8) (N := 5) hx hb hts hiX8 hown hK hP 1 rfl rfl 2 (by decide) (nf_16 hG) (fun _ h9 => h9) rfl dX11_setRuns_26 ?_
  refine lv_istore (lv' := [(4, .int 4), (0, .ref (a 0)), (1, .int x), (2, .int rw), (3, .int me)]) hx hb dX11_setRuns_29 hl (by decide) rfl (fun ls hl => ?_)
  refine lv_aload_n hx hb dX11_setRuns_31 rfl (lv_at hl 1 rfl) ?_
  refine va_get (D := (dC, dI)) (ci := 13) (v := .ref (a 8)) (C := RX11) (T := TX11) (N := 13) hx hb hts hiX11 hown hK hP 0 rfl rfl 4 (by decide) hf33 (fun _ h9 => h9) rfl dX11_setRuns_32 ?_
  refine lv_iload_n hx hb dX11_setRuns_35 rfl (lv_at hl 2 rfl) ?_
  refine va_putN (D := (dC, dI)) (ci := 10) (v := .int x) (ty := .int) (C := RX8) (T := TX8) (N := 5) hx hb hts hiX8 tyX8 tyX8_ok nmX8 hown hK hP hD hS 1 rfl rfl 0 (by decide) (nf_8 hG) (fun _ h9 => h9) rfl (by decide +kernel) rfl rfl (Nat.le_of_ble_eq_true rfl) dX11_setRuns_36 (fun H_4 L_5 hP hD hS => ?_)
  have hP : va_P (dC, dI) vwCl [((a 0), .inr (13, [.ref (a 1), .ref (a 4), .ref (a 5), .ref (a 6), .ref (a 8), .ref (a 9), .ref (a 12), .ref (a 16), .ref (a 22), .ref (a 43), .ref (a 64), .ref (a 69), .int 0])), ((a 8), .inr (10, [.int x, .int 1, .int 4, .int 0, .int 2]))] H_4 := hP
  have hD : va_D A [((a 0), .inr (13, [.ref (a 1), .ref (a 4), .ref (a 5), .ref (a 6), .ref (a 8), .ref (a 9), .ref (a 12), .ref (a 16), .ref (a 22), .ref (a 43), .ref (a 64), .ref (a 69), .int 0])), ((a 8), .inr (10, [.int x, .int 1, .int 4, .int 0, .int 2]))] := hD
  refine lv_aload_n hx hb dX11_setRuns_39 rfl (lv_at hl 1 rfl) ?_
  refine va_get (D := (dC, dI)) (ci := 13) (v := .ref (a 8)) (C := RX11) (T := TX11) (N := 13) hx hb hts hiX11 hown hK hP 0 rfl rfl 4 (by decide) hf33 (fun _ h9 => h9) rfl dX11_setRuns_40 ?_
  refine lv_iload_n hx hb dX11_setRuns_43 rfl (lv_at hl 3 rfl) ?_
  refine va_putN (D := (dC, dI)) (ci := 10) (v := .int rw) (ty := .int) (C := RX8) (T := TX8) (N := 5) hx hb hts hiX8 tyX8 tyX8_ok nmX8 hown hK hP hD hS 1 rfl rfl 1 (by decide) (nf_12 hG) (fun _ h9 => h9) rfl (by decide +kernel) rfl rfl (Nat.le_of_ble_eq_true rfl) dX11_setRuns_44 (fun H_6 L_7 hP hD hS => ?_)
  have hP : va_P (dC, dI) vwCl [((a 0), .inr (13, [.ref (a 1), .ref (a 4), .ref (a 5), .ref (a 6), .ref (a 8), .ref (a 9), .ref (a 12), .ref (a 16), .ref (a 22), .ref (a 43), .ref (a 64), .ref (a 69), .int 0])), ((a 8), .inr (10, [.int x, .int rw, .int 4, .int 0, .int 2]))] H_6 := hP
  have hD : va_D A [((a 0), .inr (13, [.ref (a 1), .ref (a 4), .ref (a 5), .ref (a 6), .ref (a 8), .ref (a 9), .ref (a 12), .ref (a 16), .ref (a 22), .ref (a 43), .ref (a 64), .ref (a 69), .int 0])), ((a 8), .inr (10, [.int x, .int rw, .int 4, .int 0, .int 2]))] := hD
  refine lv_aload_n hx hb dX11_setRuns_47 rfl (lv_at hl 1 rfl) ?_
  refine va_get (D := (dC, dI)) (ci := 13) (v := .ref (a 8)) (C := RX11) (T := TX11) (N := 13) hx hb hts hiX11 hown hK hP 0 rfl rfl 4 (by decide) hf33 (fun _ h9 => h9) rfl dX11_setRuns_48 ?_
  refine lv_iload_n hx hb dX11_setRuns_51 rfl (lv_at hl 4 rfl) ?_
  refine va_putN (D := (dC, dI)) (ci := 10) (v := .int me) (ty := .int) (C := RX8) (T := TX8) (N := 5) hx hb hts hiX8 tyX8 tyX8_ok nmX8 hown hK hP hD hS 1 rfl rfl 2 (by decide) (nf_16 hG) (fun _ h9 => h9) rfl (by decide +kernel) rfl rfl (Nat.le_of_ble_eq_true rfl) dX11_setRuns_52 (fun H_8 L_9 hP hD hS => ?_)
  have hP : va_P (dC, dI) vwCl [((a 0), .inr (13, [.ref (a 1), .ref (a 4), .ref (a 5), .ref (a 6), .ref (a 8), .ref (a 9), .ref (a 12), .ref (a 16), .ref (a 22), .ref (a 43), .ref (a 64), .ref (a 69), .int 0])), ((a 8), .inr (10, [.int x, .int rw, .int me, .int 0, .int 2]))] H_8 := hP
  have hD : va_D A [((a 0), .inr (13, [.ref (a 1), .ref (a 4), .ref (a 5), .ref (a 6), .ref (a 8), .ref (a 9), .ref (a 12), .ref (a 16), .ref (a 22), .ref (a 43), .ref (a 64), .ref (a 69), .int 0])), ((a 8), .inr (10, [.int x, .int rw, .int me, .int 0, .int 2]))] := hD
  refine lv_iload hx hb dX11_setRuns_55 (lv_at hl 0 rfl) ?_
  refine W.widen (k := 8) (n := 48) (by omega) (by omega) ?_
  refine vx_ret ?_
  exact W.iret (v := 4) hx hb hr (fun t ht hW => ⟨⟨4, (), rfl, ⟨by simp [hw_1, hw_2, hw_3], rfl⟩, trivial⟩, hS.F ht⟩) hS.2.2 dX11_setRuns_57
set_option maxHeartbeats 4000000 in
set_option maxRecDepth 100000 in
theorem c_X11_setMerge (l : Launch) (hlf : l.stackTraces = false) (dC : Nat → ClassId) (dI : Nat → Nat → Nat) (g : Nat → ClassId) (a : Nat → Nat) (x : Int32) (wy : Int32) (sz : Nat) : vx_Met l yX11_setMerge wsX11_setMerge ({ frames := 7, cells := 8, slots := 48, locals := 105 }) (va_Pc [.ref (a 0), .int x, .int wy] (PG (dC, dI) g (offW a g) sz)) (va_Qi (fun (r : Int32) (_ : Unit) => (rngb x 0 2 && rngb wy 2 6) = true ∧ r = 2) (fun (_ : Unit) (_ : State) => True) (va_A (offW a g) sz)) (vx_X (fun _ : Unit => True) (fun E _ _ => E = "java/lang/IllegalArgumentException" ∧ (rngb x 0 2 && rngb wy 2 6) = false) (va_A (offW a g) sz)) 8 48 (va_A (offW a g) sz) := by
  refine vx_ofW (cc := cX11_setMerge) (maxL := 4) (ret := (some .int)) (by decide) rfl ?_
  intro p e s m args below meth c s₁ B hml hno hv
  obtain ⟨rfl, hsz, hP, hK, hD0, hG⟩ := hv
  have hx := B.exec
  have hb := B.bytes
  have hr := B.returns
  have hts := atoms_spec (ws := wsX11_setMerge) B.pre
  have hown : s.vm.findClass RX11 = some m.cls := findClass_of_methodNamed B.named
  have hlocks := B.notSynchronized
  subst hsz
  have hD := hD0.self (sz := s.heap.size)
  generalize hAe : va_A (offW a g) s.heap.size = A at hD hG ⊢
  have hA : ∀ q : Nat, s.heap.size ≤ q → A q := fun q h => by rw [← hAe]; exact Or.inr h
  have hS : va_S A s.heap s.heap [] := va_S.rf
  have hl := lv_entry ([.ref (a 0), .int x, .int wy]) (n := 4) (Nat.le_of_ble_eq_true rfl)
  rw [lg_entry_eq]
  generalize (lg_sl ([.ref (a 0), .int x, .int wy]) ++ List.replicate (4 - (lg_sl ([.ref (a 0), .int x, .int wy])).length) Slot.unset).toArray = ls at hl ⊢
  have hl : lv_has ls 4 [(0, .ref (a 0)), (1, .int x), (2, .int wy)] := hl
  have hf33 := hts (Cond.fieldLink RX11 33 "RunmergeOffice" "settings" "LRunmergeOffice$Settings;") (by decide +kernel)
  have hiX11 : ∀ w ∈ u_ws RX11 TX11 13, w ∈ wsX11_setMerge := by decide +kernel
  have hiX8 : ∀ w ∈ u_ws RX8 TX8 5, w ∈ wsX11_setMerge := by decide +kernel
  refine lv_aload_n hx hb dX11_setMerge_0 rfl (lv_at hl 0 rfl) ?_
  refine lv_iload_n hx hb dX11_setMerge_1 rfl (lv_at hl 1 rfl) ?_
  refine lv_iconst (v := 0) hx hb dX11_setMerge_2 (by decide) ?_
  refine lv_iconst (v := 2) hx hb dX11_setMerge_3 (by decide) ?_
  refine vx_callv (vx_runV (As := [.int x, .int 0, .int 2]) (rest := []) ⟨hx, hb, hml, hown, hts⟩ (c_X11_demandRange l hlf dC dI g (offW a g) (a 0) x 0 2   s.heap.size) (cwV 3 hts gX11_setMerge_X11_demandRange rfl rfl rfl (by decide +kernel) ⟨Nat.le_of_ble_eq_true rfl, Nat.le_of_ble_eq_true rfl⟩) ⟨PG_blind, va_recv hK hP (ci := 13) (q0 := 0) rfl (o_0 a g), PG_call hK hG hS hP hD (A_all hD hA hS.1)⟩ rfl rfl hl.1 rfl (lv_room (Nat.le_of_ble_eq_true rfl)) dX11_setMerge_4 ⟨Nat.le_of_ble_eq_true rfl, Nat.le_of_ble_eq_true rfl⟩) hS (fun q _ h => (A_all hD hA hS.1) q h) (A_all hD hA hS.1) (fun q _ h => (A_all hD hA hS.1) q h) (fun E ce q9 u t H1 locs1 ht hvm hp9 hB9 hz hk hS9 hce hcv hcl => ?_) (fun u_1 t_1 H_1 L_1 ht_1 hvm_1 hw_1 hB_1 hz_1 hk_1 hS => ?_)
  · exact vx_out (fun x hx => (hno x hx).elim) hlocks hce hcv hcl (fun t ht hW => ⟨(), trivial, (by have h9 : E = "java/lang/IllegalArgumentException" ∧ rngb x 0 2 = false := hB9; exact ⟨h9.1, by simp [h9.2]⟩), hS9.F ht⟩) hS9.2.2 (Nat.le_of_ble_eq_true rfl) (Nat.le_of_ble_eq_true rfl)
  replace hB_1 := (show va_P (dC, dI) vwCl (offW a g) t_1.heap from hB_1)
  rw [ht_1] at hB_1
  have hP := hB_1
  refine lv_aload_n hx hb dX11_setMerge_7 rfl (lv_at hl 0 rfl) ?_
  refine lv_iload_n hx hb dX11_setMerge_8 rfl (lv_at hl 2 rfl) ?_
  refine lv_iconst (v := 2) hx hb dX11_setMerge_9 (by decide) ?_
  refine lv_bipush (v := 6) hx hb dX11_setMerge_10 (by decide) ?_
  refine vx_callv (vx_runV (As := [.int wy, .int 2, .int 6]) (rest := []) ⟨hx, hb, hml, hown, hts⟩ (c_X11_demandRange l hlf dC dI g (offW a g) (a 0) wy 2 6   H_1.size) (cwV 3 hts gX11_setMerge_X11_demandRange rfl rfl rfl (by decide +kernel) ⟨Nat.le_of_ble_eq_true rfl, Nat.le_of_ble_eq_true rfl⟩) ⟨PG_blind, va_recv hK hP (ci := 13) (q0 := 0) rfl (o_0 a g), PG_call hK hG hS hP hD (A_all hD hA hS.1)⟩ rfl rfl hl.1 rfl (lv_room (Nat.le_of_ble_eq_true rfl)) dX11_setMerge_12 ⟨Nat.le_of_ble_eq_true rfl, Nat.le_of_ble_eq_true rfl⟩) hS (fun q _ h => (A_all hD hA hS.1) q h) (A_all hD hA hS.1) (fun q _ h => (A_all hD hA hS.1) q h) (fun E ce q9 u t H1 locs1 ht hvm hp9 hB9 hz hk hS9 hce hcv hcl => ?_) (fun u_2 t_2 H_2 L_2 ht_2 hvm_2 hw_2 hB_2 hz_2 hk_2 hS => ?_)
  · exact vx_out (fun x hx => (hno x hx).elim) hlocks hce hcv hcl (fun t ht hW => ⟨(), trivial, (by have h9 : E = "java/lang/IllegalArgumentException" ∧ rngb wy 2 6 = false := hB9; exact ⟨h9.1, by simp [h9.2]⟩), hS9.F ht⟩) hS9.2.2 (Nat.le_of_ble_eq_true rfl) (Nat.le_of_ble_eq_true rfl)
  replace hB_2 := (show va_P (dC, dI) vwCl (offW a g) t_2.heap from hB_2)
  rw [ht_2] at hB_2
  have hP := hB_2
  replace hP := hP.sub (ws' := [((a 0), .inr (13, [.ref (a 1), .ref (a 4), .ref (a 5), .ref (a 6), .ref (a 8), .ref (a 9), .ref (a 12), .ref (a 16), .ref (a 22), .ref (a 43), .ref (a 64), .ref (a 69), .int 0])), ((a 8), .inr (10, [.int 0, .int 1, .int 4, .int 0, .int 2]))]) [0, 8] rfl
  replace hD := hD.sub (ws' := [((a 0), .inr (13, [.ref (a 1), .ref (a 4), .ref (a 5), .ref (a 6), .ref (a 8), .ref (a 9), .ref (a 12), .ref (a 16), .ref (a 22), .ref (a 43), .ref (a 64), .ref (a 69), .int 0])), ((a 8), .inr (10, [.int 0, .int 1, .int 4, .int 0, .int 2]))]) [0, 8] (by decide) rfl
  have hP : va_P (dC, dI) vwCl [((a 0), .inr (13, [.ref (a 1), .ref (a 4), .ref (a 5), .ref (a 6), .ref (a 8), .ref (a 9), .ref (a 12), .ref (a 16), .ref (a 22), .ref (a 43), .ref (a 64), .ref (a 69), .int 0])), ((a 8), .inr (10, [.int 0, .int 1, .int 4, .int 0, .int 2]))] H_2 := hP
  have hD : va_D A [((a 0), .inr (13, [.ref (a 1), .ref (a 4), .ref (a 5), .ref (a 6), .ref (a 8), .ref (a 9), .ref (a 12), .ref (a 16), .ref (a 22), .ref (a 43), .ref (a 64), .ref (a 69), .int 0])), ((a 8), .inr (10, [.int 0, .int 1, .int 4, .int 0, .int 2]))] := hD
  refine lv_aload_n hx hb dX11_setMerge_15 rfl (lv_at hl 0 rfl) ?_
  refine va_get (D := (dC, dI)) (ci := 13) (v := .ref (a 8)) (C := RX11) (T := TX11) (N := 13) hx hb hts hiX11 hown hK hP 0 rfl rfl 4 (by decide) hf33 (fun _ h9 => h9) rfl dX11_setMerge_16 ?_
  refine va_getN (D := (dC, dI)) (ci := 10) (v := .int 2) (C := RX8) (T := TX8) (N := 5) hx hb hts hiX8 hown hK hP 1 rfl rfl 4 (by decide) (nf_24 hG) (fun _ h9 => h9) rfl dX11_setMerge_19 ?_
  refine lv_istore_n (lv' := [(3, .int 2), (0, .ref (a 0)), (1, .int x), (2, .int wy)]) hx hb dX11_setMerge_22 rfl hl (by decide) rfl (fun ls hl => ?_)
  refine lv_aload_n hx hb dX11_setMerge_23 rfl (lv_at hl 1 rfl) ?_
  refine va_get (D := (dC, dI)) (ci := 13) (v := .ref (a 8)) (C := RX11) (T := TX11) (N := 13) hx hb hts hiX11 hown hK hP 0 rfl rfl 4 (by decide) hf33 (fun _ h9 => h9) rfl dX11_setMerge_24 ?_
  refine lv_iload_n hx hb dX11_setMerge_27 rfl (lv_at hl 2 rfl) ?_
  refine va_putN (D := (dC, dI)) (ci := 10) (v := .int x) (ty := .int) (C := RX8) (T := TX8) (N := 5) hx hb hts hiX8 tyX8 tyX8_ok nmX8 hown hK hP hD hS 1 rfl rfl 3 (by decide) (nf_20 hG) (fun _ h9 => h9) rfl (by decide +kernel) rfl rfl (Nat.le_of_ble_eq_true rfl) dX11_setMerge_28 (fun H_3 L_4 hP hD hS => ?_)
  have hP : va_P (dC, dI) vwCl [((a 0), .inr (13, [.ref (a 1), .ref (a 4), .ref (a 5), .ref (a 6), .ref (a 8), .ref (a 9), .ref (a 12), .ref (a 16), .ref (a 22), .ref (a 43), .ref (a 64), .ref (a 69), .int 0])), ((a 8), .inr (10, [.int 0, .int 1, .int 4, .int x, .int 2]))] H_3 := hP
  have hD : va_D A [((a 0), .inr (13, [.ref (a 1), .ref (a 4), .ref (a 5), .ref (a 6), .ref (a 8), .ref (a 9), .ref (a 12), .ref (a 16), .ref (a 22), .ref (a 43), .ref (a 64), .ref (a 69), .int 0])), ((a 8), .inr (10, [.int 0, .int 1, .int 4, .int x, .int 2]))] := hD
  refine lv_aload_n hx hb dX11_setMerge_31 rfl (lv_at hl 1 rfl) ?_
  refine va_get (D := (dC, dI)) (ci := 13) (v := .ref (a 8)) (C := RX11) (T := TX11) (N := 13) hx hb hts hiX11 hown hK hP 0 rfl rfl 4 (by decide) hf33 (fun _ h9 => h9) rfl dX11_setMerge_32 ?_
  refine lv_iload_n hx hb dX11_setMerge_35 rfl (lv_at hl 3 rfl) ?_
  refine va_putN (D := (dC, dI)) (ci := 10) (v := .int wy) (ty := .int) (C := RX8) (T := TX8) (N := 5) hx hb hts hiX8 tyX8 tyX8_ok nmX8 hown hK hP hD hS 1 rfl rfl 4 (by decide) (nf_24 hG) (fun _ h9 => h9) rfl (by decide +kernel) rfl rfl (Nat.le_of_ble_eq_true rfl) dX11_setMerge_36 (fun H_5 L_6 hP hD hS => ?_)
  have hP : va_P (dC, dI) vwCl [((a 0), .inr (13, [.ref (a 1), .ref (a 4), .ref (a 5), .ref (a 6), .ref (a 8), .ref (a 9), .ref (a 12), .ref (a 16), .ref (a 22), .ref (a 43), .ref (a 64), .ref (a 69), .int 0])), ((a 8), .inr (10, [.int 0, .int 1, .int 4, .int x, .int wy]))] H_5 := hP
  have hD : va_D A [((a 0), .inr (13, [.ref (a 1), .ref (a 4), .ref (a 5), .ref (a 6), .ref (a 8), .ref (a 9), .ref (a 12), .ref (a 16), .ref (a 22), .ref (a 43), .ref (a 64), .ref (a 69), .int 0])), ((a 8), .inr (10, [.int 0, .int 1, .int 4, .int x, .int wy]))] := hD
  refine lv_iload_n hx hb dX11_setMerge_39 rfl (lv_at hl 0 rfl) ?_
  refine W.widen (k := 8) (n := 48) (by omega) (by omega) ?_
  refine vx_ret ?_
  exact W.iret (v := 2) hx hb hr (fun t ht hW => ⟨⟨2, (), rfl, ⟨by simp [hw_1, hw_2], rfl⟩, trivial⟩, hS.F ht⟩) hS.2.2 dX11_setMerge_40
set_option maxHeartbeats 4000000 in
set_option maxRecDepth 100000 in
theorem c_X11_setting (l : Launch) (hlf : l.stackTraces = false) (dC : Nat → ClassId) (dI : Nat → Nat → Nat) (g : Nat → ClassId) (a : Nat → Nat) (x : Int32) (sz : Nat) : vx_Met l yX11_setting wsX11_setting ({ frames := 6, cells := 8, slots := 48, locals := 82 }) (va_Pc [.ref (a 0), .int x] (PG (dC, dI) g (offW a g) sz)) (va_Qi (fun (r : Int32) (_ : Unit) => (rngb x 0 4) = true ∧ r = stv x) (fun (_ : Unit) (_ : State) => True) (va_A (offW a g) sz)) (vx_X (fun _ : Unit => True) (fun E _ _ => E = "java/lang/IllegalArgumentException" ∧ (rngb x 0 4) = false) (va_A (offW a g) sz)) 8 48 (va_A (offW a g) sz) := by
  refine vx_ofW (cc := cX11_setting) (maxL := 2) (ret := (some .int)) (by decide) rfl ?_
  intro p e s m args below meth c s₁ B hml hno hv
  obtain ⟨rfl, hsz, hP, hK, hD0, hG⟩ := hv
  have hx := B.exec
  have hb := B.bytes
  have hr := B.returns
  have hts := atoms_spec (ws := wsX11_setting) B.pre
  have hown : s.vm.findClass RX11 = some m.cls := findClass_of_methodNamed B.named
  have hlocks := B.notSynchronized
  subst hsz
  have hD := hD0.self (sz := s.heap.size)
  generalize hAe : va_A (offW a g) s.heap.size = A at hD hG ⊢
  have hA : ∀ q : Nat, s.heap.size ≤ q → A q := fun q h => by rw [← hAe]; exact Or.inr h
  have hS : va_S A s.heap s.heap [] := va_S.rf
  have hl := lv_entry ([.ref (a 0), .int x]) (n := 2) (Nat.le_of_ble_eq_true rfl)
  rw [lg_entry_eq]
  generalize (lg_sl ([.ref (a 0), .int x]) ++ List.replicate (2 - (lg_sl ([.ref (a 0), .int x])).length) Slot.unset).toArray = ls at hl ⊢
  have hl : lv_has ls 2 [(0, .ref (a 0)), (1, .int x)] := hl
  have hf33 := hts (Cond.fieldLink RX11 33 "RunmergeOffice" "settings" "LRunmergeOffice$Settings;") (by decide +kernel)
  have hiX11 : ∀ w ∈ u_ws RX11 TX11 13, w ∈ wsX11_setting := by decide +kernel
  have hiX8 : ∀ w ∈ u_ws RX8 TX8 5, w ∈ wsX11_setting := by decide +kernel
  have hcl109 := hts (Cond.classLink RX11 109 "java/lang/IllegalArgumentException") (by decide +kernel)
  have hini_IllegalArgumentException := hts (Cond.initialized "java/lang/IllegalArgumentException") (by decide +kernel)
  refine lv_iload_n hx hb dX11_setting_0 rfl (lv_at hl 1 rfl) ?_
  rcases sw_0_4 x with rfl | rfl | rfl | rfl | rfl | c_sw
  · refine lv_tableIn (tgt := 36) hx hb dX11_setting_1 (by decide) (by decide) rfl (by decide) ?_
    refine lv_aload_n hx hb dX11_setting_36 rfl (lv_at hl 0 rfl) ?_
    refine va_get (D := (dC, dI)) (ci := 13) (v := .ref (a 8)) (C := RX11) (T := TX11) (N := 13) hx hb hts hiX11 hown hK hP 0 (o_0 a g) rfl 4 (by decide) hf33 (fun _ h9 => h9) rfl dX11_setting_37 ?_
    refine va_getN (D := (dC, dI)) (ci := 10) (v := .int 0) (C := RX8) (T := TX8) (N := 5) hx hb hts hiX8 hown hK hP 8 (o_8 a g) rfl 0 (by decide) (nf_8 hG) (fun _ h9 => h9) rfl dX11_setting_40 ?_
    refine W.widen (k := 8) (n := 48) (by omega) (by omega) ?_
    refine vx_ret ?_
    exact W.iret (v := 0) hx hb hr (fun t ht hW => ⟨⟨0, (), rfl, ⟨by decide, by decide⟩, trivial⟩, hS.F ht⟩) hS.2.2 dX11_setting_43
  · refine lv_tableIn (tgt := 44) hx hb dX11_setting_1 (by decide) (by decide) rfl (by decide) ?_
    refine lv_aload_n hx hb dX11_setting_44 rfl (lv_at hl 0 rfl) ?_
    refine va_get (D := (dC, dI)) (ci := 13) (v := .ref (a 8)) (C := RX11) (T := TX11) (N := 13) hx hb hts hiX11 hown hK hP 0 (o_0 a g) rfl 4 (by decide) hf33 (fun _ h9 => h9) rfl dX11_setting_45 ?_
    refine va_getN (D := (dC, dI)) (ci := 10) (v := .int 1) (C := RX8) (T := TX8) (N := 5) hx hb hts hiX8 hown hK hP 8 (o_8 a g) rfl 1 (by decide) (nf_12 hG) (fun _ h9 => h9) rfl dX11_setting_48 ?_
    refine W.widen (k := 8) (n := 48) (by omega) (by omega) ?_
    refine vx_ret ?_
    exact W.iret (v := 1) hx hb hr (fun t ht hW => ⟨⟨1, (), rfl, ⟨by decide, by decide⟩, trivial⟩, hS.F ht⟩) hS.2.2 dX11_setting_51
  · refine lv_tableIn (tgt := 52) hx hb dX11_setting_1 (by decide) (by decide) rfl (by decide) ?_
    refine lv_aload_n hx hb dX11_setting_52 rfl (lv_at hl 0 rfl) ?_
    refine va_get (D := (dC, dI)) (ci := 13) (v := .ref (a 8)) (C := RX11) (T := TX11) (N := 13) hx hb hts hiX11 hown hK hP 0 (o_0 a g) rfl 4 (by decide) hf33 (fun _ h9 => h9) rfl dX11_setting_53 ?_
    refine va_getN (D := (dC, dI)) (ci := 10) (v := .int 4) (C := RX8) (T := TX8) (N := 5) hx hb hts hiX8 hown hK hP 8 (o_8 a g) rfl 2 (by decide) (nf_16 hG) (fun _ h9 => h9) rfl dX11_setting_56 ?_
    refine W.widen (k := 8) (n := 48) (by omega) (by omega) ?_
    refine vx_ret ?_
    exact W.iret (v := 4) hx hb hr (fun t ht hW => ⟨⟨4, (), rfl, ⟨by decide, by decide⟩, trivial⟩, hS.F ht⟩) hS.2.2 dX11_setting_59
  · refine lv_tableIn (tgt := 60) hx hb dX11_setting_1 (by decide) (by decide) rfl (by decide) ?_
    refine lv_aload_n hx hb dX11_setting_60 rfl (lv_at hl 0 rfl) ?_
    refine va_get (D := (dC, dI)) (ci := 13) (v := .ref (a 8)) (C := RX11) (T := TX11) (N := 13) hx hb hts hiX11 hown hK hP 0 (o_0 a g) rfl 4 (by decide) hf33 (fun _ h9 => h9) rfl dX11_setting_61 ?_
    refine va_getN (D := (dC, dI)) (ci := 10) (v := .int 0) (C := RX8) (T := TX8) (N := 5) hx hb hts hiX8 hown hK hP 8 (o_8 a g) rfl 3 (by decide) (nf_20 hG) (fun _ h9 => h9) rfl dX11_setting_64 ?_
    refine W.widen (k := 8) (n := 48) (by omega) (by omega) ?_
    refine vx_ret ?_
    exact W.iret (v := 0) hx hb hr (fun t ht hW => ⟨⟨0, (), rfl, ⟨by decide, by decide⟩, trivial⟩, hS.F ht⟩) hS.2.2 dX11_setting_67
  · refine lv_tableIn (tgt := 68) hx hb dX11_setting_1 (by decide) (by decide) rfl (by decide) ?_
    refine lv_aload_n hx hb dX11_setting_68 rfl (lv_at hl 0 rfl) ?_
    refine va_get (D := (dC, dI)) (ci := 13) (v := .ref (a 8)) (C := RX11) (T := TX11) (N := 13) hx hb hts hiX11 hown hK hP 0 (o_0 a g) rfl 4 (by decide) hf33 (fun _ h9 => h9) rfl dX11_setting_69 ?_
    refine va_getN (D := (dC, dI)) (ci := 10) (v := .int 2) (C := RX8) (T := TX8) (N := 5) hx hb hts hiX8 hown hK hP 8 (o_8 a g) rfl 4 (by decide) (nf_24 hG) (fun _ h9 => h9) rfl dX11_setting_72 ?_
    refine W.widen (k := 8) (n := 48) (by omega) (by omega) ?_
    refine vx_ret ?_
    exact W.iret (v := 2) hx hb hr (fun t ht hW => ⟨⟨2, (), rfl, ⟨by decide, by decide⟩, trivial⟩, hS.F ht⟩) hS.2.2 dX11_setting_75
  · refine lv_tableOut (tgt := 76) hx hb dX11_setting_1 c_sw (by decide) ?_
    obtain ⟨sa, hsa⟩ := st_24 hG
    exact vx_throwS hx hb hlf (own := RX11) (cls := "java/lang/IllegalArgumentException") (text := "there is no such setting") (names := ["java/lang/RuntimeException", "java/lang/Exception"]) (ik := 109) (is := 175) (ic := 113) hown rfl (by decide) hcl109 hini_IllegalArgumentException hsa (vx_hat (B := [.castable "java/lang/IllegalArgumentException" "java/lang/IllegalArgumentException", .declares (Bundle.initS "java/lang/RuntimeException"), .declares (Bundle.initS "java/lang/Exception"), .declares (Bundle.initS "java/lang/Throwable")]) (fun w h => hts w (List.mem_cons_of_mem _ (by first | exact List.mem_append_right _ h | exact List.mem_append_left _ (List.mem_append_right _ h) | exact List.mem_append_left _ (List.mem_append_left _ (List.mem_append_right _ h))))) (by decide +kernel) (vx_c (xc_1 hG) (vx_c (dc_0 hG) (vx_c (dc_1 hG) (vx_c (dc_2 hG) vx_n))))) (by decide +kernel) hG.2.2.2.1 hG.2.2.2.2.1 hS (hl.1.trans hml.symm) dX11_setting_76 dX11_setting_79 dX11_setting_80 dX11_setting_82 dX11_setting_85 (fun x hx => (hno x hx).elim) (Nat.le_of_ble_eq_true rfl) (Nat.le_of_ble_eq_true rfl) (Nat.le_of_ble_eq_true rfl) (Nat.le_of_ble_eq_true rfl) hlocks (fun t hW hz hk => ⟨(), trivial, ⟨rfl, by simp [(rng_sw (n := 4) (b := 4) (by decide) c_sw)]⟩, F_of hS hz hk⟩) hS.2.2 (Nat.le_of_ble_eq_true rfl) (Nat.le_of_ble_eq_true rfl)
