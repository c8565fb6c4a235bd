theorem dX13_setting_0 : decode cX13_setting 0 = .ok (.aload_n 0, 1) := by decide +kernel
theorem dX13_setting_1 : decode cX13_setting 1 = .ok (.iload_n 1, 1) := by decide +kernel
theorem dX13_setting_2 : decode cX13_setting 2 = .ok (.iconst 0, 1) := by decide +kernel
theorem dX13_setting_3 : decode cX13_setting 3 = .ok (.iconst 4, 1) := by decide +kernel
set_option maxRecDepth 20000 in
theorem ggX13_setting_X13_in : GoodIn wsX13_setting wsX13_in := goodIn_r _ [5] (by decide +kernel) (by decide +kernel)
set_option maxRecDepth 20000 in
theorem gX13_setting_X13_in : GoodIn wsX13_setting (va_wsS RX13 7 yX13_in wsX13_in) := goodIn_app (goodIn_of _ (by decide +kernel)) ggX13_setting_X13_in
theorem dX13_setting_4 : decode cX13_setting 4 = .ok (.invokestatic 7, 3) := by decide +kernel
theorem dX13_setting_7 : decode cX13_setting 7 = .ok (.iconst 1, 1) := by decide +kernel
theorem dX13_setting_8 : decode cX13_setting 8 = .ok (.iconst 1, 1) := by decide +kernel
set_option maxRecDepth 20000 in
theorem ggX13_setting_X13_passes : GoodIn wsX13_setting wsX13_passes := goodIn_r _ [9, 10, 11, 12, 13, 14, 15, 16, 17, 18, 19, 20, 21, 22, 23, 24] (by decide +kernel) (by decide +kernel)
set_option maxRecDepth 20000 in
theorem gX13_setting_X13_passes : GoodIn wsX13_setting (wsV RX13 55 RX13 yX13_passes wsX13_passes) := goodIn_app (goodIn_of _ (by decide +kernel)) ggX13_setting_X13_passes
theorem dX13_setting_9 : decode cX13_setting 9 = .ok (.invokevirtual 55, 3) := by decide +kernel
theorem dX13_setting_12 : decode cX13_setting 12 = .ok (.ifCond .eq 12, 3) := by decide +kernel
theorem dX13_setting_24 : decode cX13_setting 24 = .ok (.iconst 0, 1) := by decide +kernel
theorem dX13_setting_25 : decode cX13_setting 25 = .ok (.ireturn, 1) := by decide +kernel
theorem dX13_setting_15 : decode cX13_setting 15 = .ok (.aload_n 0, 1) := by decide +kernel
theorem dX13_setting_16 : decode cX13_setting 16 = .ok (.getfield 35, 3) := by decide +kernel
theorem dX13_setting_19 : decode cX13_setting 19 = .ok (.iload_n 1, 1) := by decide +kernel
theorem dX13_setting_20 : decode cX13_setting 20 = .ok (.iaload, 1) := by decide +kernel
theorem dX13_setting_21 : decode cX13_setting 21 = .ok (.goto 4, 3) := by decide +kernel
theorem dX13_setRuns_0 : decode cX13_setRuns 0 = .ok (.aload_n 0, 1) := by decide +kernel
theorem dX13_setRuns_1 : decode cX13_setRuns 1 = .ok (.iload_n 1, 1) := by decide +kernel
theorem dX13_setRuns_2 : decode cX13_setRuns 2 = .ok (.iconst 0, 1) := by decide +kernel
theorem dX13_setRuns_3 : decode cX13_setRuns 3 = .ok (.iconst 1, 1) := by decide +kernel
set_option maxRecDepth 20000 in
theorem ggX13_setRuns_X13_in : GoodIn wsX13_setRuns wsX13_in := goodIn_r _ [5] (by decide +kernel) (by decide +kernel)
set_option maxRecDepth 20000 in
theorem gX13_setRuns_X13_in : GoodIn wsX13_setRuns (va_wsS RX13 7 yX13_in wsX13_in) := goodIn_app (goodIn_of _ (by decide +kernel)) ggX13_setRuns_X13_in
theorem dX13_setRuns_4 : decode cX13_setRuns 4 = .ok (.invokestatic 7, 3) := by decide +kernel
theorem dX13_setRuns_7 : decode cX13_setRuns 7 = .ok (.ifCond .eq 26, 3) := by decide +kernel
theorem dX13_setRuns_33 : decode cX13_setRuns 33 = .ok (.iconst 0, 1) := by decide +kernel
theorem dX13_setRuns_34 : decode cX13_setRuns 34 = .ok (.iconst 1, 1) := by decide +kernel
theorem dX13_setRuns_35 : decode cX13_setRuns 35 = .ok (.iconst 1, 1) := by decide +kernel
set_option maxRecDepth 20000 in
theorem ggX13_setRuns_X13_passes : GoodIn wsX13_setRuns wsX13_passes := goodIn_r _ [9, 10, 11, 12, 13, 14, 15, 16, 17, 18, 19, 20, 21, 22, 23, 24] (by decide +kernel) (by decide +kernel)
set_option maxRecDepth 20000 in
theorem gX13_setRuns_X13_passes : GoodIn wsX13_setRuns (wsV RX13 55 RX13 yX13_passes wsX13_passes) := goodIn_app (goodIn_of _ (by decide +kernel)) ggX13_setRuns_X13_passes
theorem dX13_setRuns_36 : decode cX13_setRuns 36 = .ok (.invokevirtual 55, 3) := by decide +kernel
theorem dX13_setRuns_39 : decode cX13_setRuns 39 = .ok (.ifCond .ne 5, 3) := by decide +kernel
theorem dX13_setRuns_42 : decode cX13_setRuns 42 = .ok (.iconst 0, 1) := by decide +kernel
theorem dX13_setRuns_43 : decode cX13_setRuns 43 = .ok (.ireturn, 1) := by decide +kernel
theorem dX13_setRuns_10 : decode cX13_setRuns 10 = .ok (.iload_n 2, 1) := by decide +kernel
theorem dX13_setRuns_11 : decode cX13_setRuns 11 = .ok (.iconst 0, 1) := by decide +kernel
theorem dX13_setRuns_12 : decode cX13_setRuns 12 = .ok (.iconst 2, 1) := by decide +kernel
theorem dX13_setRuns_13 : decode cX13_setRuns 13 = .ok (.invokestatic 7, 3) := by decide +kernel
theorem dX13_setRuns_16 : decode cX13_setRuns 16 = .ok (.ifCond .eq 17, 3) := by decide +kernel
theorem dX13_setRuns_19 : decode cX13_setRuns 19 = .ok (.iload_n 3, 1) := by decide +kernel
theorem dX13_setRuns_20 : decode cX13_setRuns 20 = .ok (.iconst 1, 1) := by decide +kernel
theorem dX13_setRuns_21 : decode cX13_setRuns 21 = .ok (.bipush 50, 2) := by decide +kernel
theorem dX13_setRuns_23 : decode cX13_setRuns 23 = .ok (.invokestatic 7, 3) := by decide +kernel
theorem dX13_setRuns_26 : decode cX13_setRuns 26 = .ok (.ifCond .eq 7, 3) := by decide +kernel
theorem dX13_setRuns_29 : decode cX13_setRuns 29 = .ok (.iconst 1, 1) := by decide +kernel
theorem dX13_setRuns_30 : decode cX13_setRuns 30 = .ok (.goto 4, 3) := by decide +kernel
theorem dX13_setRuns_44 : decode cX13_setRuns 44 = .ok (.aload_n 0, 1) := by decide +kernel
theorem dX13_setRuns_45 : decode cX13_setRuns 45 = .ok (.getfield 35, 3) := by decide +kernel
theorem dX13_setRuns_48 : decode cX13_setRuns 48 = .ok (.iconst 2, 1) := by decide +kernel
theorem dX13_setRuns_49 : decode cX13_setRuns 49 = .ok (.iaload, 1) := by decide +kernel
theorem dX13_setRuns_50 : decode cX13_setRuns 50 = .ok (.istore 4, 2) := by decide +kernel
theorem dX13_setRuns_52 : decode cX13_setRuns 52 = .ok (.aload_n 0, 1) := by decide +kernel
theorem dX13_setRuns_53 : decode cX13_setRuns 53 = .ok (.getfield 35, 3) := by decide +kernel
theorem dX13_setRuns_56 : decode cX13_setRuns 56 = .ok (.iconst 0, 1) := by decide +kernel
theorem dX13_setRuns_57 : decode cX13_setRuns 57 = .ok (.iload_n 1, 1) := by decide +kernel
theorem dX13_setRuns_58 : decode cX13_setRuns 58 = .ok (.iastore, 1) := by decide +kernel
theorem dX13_setRuns_59 : decode cX13_setRuns 59 = .ok (.aload_n 0, 1) := by decide +kernel
theorem dX13_setRuns_60 : decode cX13_setRuns 60 = .ok (.getfield 35, 3) := by decide +kernel
theorem dX13_setRuns_63 : decode cX13_setRuns 63 = .ok (.iconst 1, 1) := by decide +kernel
theorem dX13_setRuns_64 : decode cX13_setRuns 64 = .ok (.iload_n 2, 1) := by decide +kernel
theorem dX13_setRuns_65 : decode cX13_setRuns 65 = .ok (.iastore, 1) := by decide +kernel
theorem dX13_setRuns_66 : decode cX13_setRuns 66 = .ok (.aload_n 0, 1) := by decide +kernel
theorem dX13_setRuns_67 : decode cX13_setRuns 67 = .ok (.getfield 35, 3) := by decide +kernel
theorem dX13_setRuns_70 : decode cX13_setRuns 70 = .ok (.iconst 2, 1) := by decide +kernel
theorem dX13_setRuns_71 : decode cX13_setRuns 71 = .ok (.iload_n 3, 1) := by decide +kernel
theorem dX13_setRuns_72 : decode cX13_setRuns 72 = .ok (.iastore, 1) := by decide +kernel
theorem dX13_setRuns_73 : decode cX13_setRuns 73 = .ok (.iload 4, 2) := by decide +kernel
theorem dX13_setRuns_75 : decode cX13_setRuns 75 = .ok (.ireturn, 1) := by decide +kernel
theorem dX13_setMerge_0 : decode cX13_setMerge 0 = .ok (.aload_n 0, 1) := by decide +kernel
theorem dX13_setMerge_1 : decode cX13_setMerge 1 = .ok (.iload_n 1, 1) := by decide +kernel
theorem dX13_setMerge_2 : decode cX13_setMerge 2 = .ok (.iconst 0, 1) := by decide +kernel
theorem dX13_setMerge_3 : decode cX13_setMerge 3 = .ok (.iconst 2, 1) := by decide +kernel
set_option maxRecDepth 20000 in
theorem ggX13_setMerge_X13_in : GoodIn wsX13_setMerge wsX13_in := goodIn_r _ [5] (by decide +kernel) (by decide +kernel)
set_option maxRecDepth 20000 in
theorem gX13_setMerge_X13_in : GoodIn wsX13_setMerge (va_wsS RX13 7 yX13_in wsX13_in) := goodIn_app (goodIn_of _ (by decide +kernel)) ggX13_setMerge_X13_in
theorem dX13_setMerge_4 : decode cX13_setMerge 4 = .ok (.invokestatic 7, 3) := by decide +kernel
theorem dX13_setMerge_7 : decode cX13_setMerge 7 = .ok (.ifCond .eq 17, 3) := by decide +kernel
theorem dX13_setMerge_24 : decode cX13_setMerge 24 = .ok (.iconst 0, 1) := by decide +kernel
theorem dX13_setMerge_25 : decode cX13_setMerge 25 = .ok (.iconst 1, 1) := by decide +kernel
theorem dX13_setMerge_26 : decode cX13_setMerge 26 = .ok (.iconst 1, 1) := by decide +kernel
set_option maxRecDepth 20000 in
theorem ggX13_setMerge_X13_passes : GoodIn wsX13_setMerge wsX13_passes := goodIn_r _ [9, 10, 11, 12, 13, 14, 15, 16, 17, 18, 19, 20, 21, 22, 23, 24] (by decide +kernel) (by decide +kernel)
set_option maxRecDepth 20000 in
theorem gX13_setMerge_X13_passes : GoodIn wsX13_setMerge (wsV RX13 55 RX13 yX13_passes wsX13_passes) := goodIn_app (goodIn_of _ (by decide +kernel)) ggX13_setMerge_X13_passes
theorem dX13_setMerge_27 : decode cX13_setMerge 27 = .ok (.invokevirtual 55, 3) := by decide +kernel
theorem dX13_setMerge_30 : decode cX13_setMerge 30 = .ok (.ifCond .ne 5, 3) := by decide +kernel
theorem dX13_setMerge_33 : decode cX13_setMerge 33 = .ok (.iconst 0, 1) := by decide +kernel
theorem dX13_setMerge_34 : decode cX13_setMerge 34 = .ok (.ireturn, 1) := by decide +kernel
theorem dX13_setMerge_10 : decode cX13_setMerge 10 = .ok (.iload_n 2, 1) := by decide +kernel
theorem dX13_setMerge_11 : decode cX13_setMerge 11 = .ok (.iconst 2, 1) := by decide +kernel
theorem dX13_setMerge_12 : decode cX13_setMerge 12 = .ok (.bipush 6, 2) := by decide +kernel
theorem dX13_setMerge_14 : decode cX13_setMerge 14 = .ok (.invokestatic 7, 3) := by decide +kernel
theorem dX13_setMerge_17 : decode cX13_setMerge 17 = .ok (.ifCond .eq 7, 3) := by decide +kernel
theorem dX13_setMerge_20 : decode cX13_setMerge 20 = .ok (.iconst 1, 1) := by decide +kernel
theorem dX13_setMerge_21 : decode cX13_setMerge 21 = .ok (.goto 4, 3) := by decide +kernel
theorem dX13_setMerge_35 : decode cX13_setMerge 35 = .ok (.aload_n 0, 1) := by decide +kernel
theorem dX13_setMerge_36 : decode cX13_setMerge 36 = .ok (.getfield 35, 3) := by decide +kernel
theorem dX13_setMerge_39 : decode cX13_setMerge 39 = .ok (.iconst 4, 1) := by decide +kernel
theorem dX13_setMerge_40 : decode cX13_setMerge 40 = .ok (.iaload, 1) := by decide +kernel
theorem dX13_setMerge_41 : decode cX13_setMerge 41 = .ok (.istore_n 3, 1) := by decide +kernel
theorem dX13_setMerge_42 : decode cX13_setMerge 42 = .ok (.aload_n 0, 1) := by decide +kernel
theorem dX13_setMerge_43 : decode cX13_setMerge 43 = .ok (.getfield 35, 3) := by decide +kernel
theorem dX13_setMerge_46 : decode cX13_setMerge 46 = .ok (.iconst 3, 1) := by decide +kernel
theorem dX13_setMerge_47 : decode cX13_setMerge 47 = .ok (.iload_n 1, 1) := by decide +kernel
theorem dX13_setMerge_48 : decode cX13_setMerge 48 = .ok (.iastore, 1) := by decide +kernel
theorem dX13_setMerge_49 : decode cX13_setMerge 49 = .ok (.aload_n 0, 1) := by decide +kernel
theorem dX13_setMerge_50 : decode cX13_setMerge 50 = .ok (.getfield 35, 3) := by decide +kernel
theorem dX13_setMerge_53 : decode cX13_setMerge 53 = .ok (.iconst 4, 1) := by decide +kernel
theorem dX13_setMerge_54 : decode cX13_setMerge 54 = .ok (.iload_n 2, 1) := by decide +kernel
theorem dX13_setMerge_55 : decode cX13_setMerge 55 = .ok (.iastore, 1) := by decide +kernel
theorem dX13_setMerge_56 : decode cX13_setMerge 56 = .ok (.iload_n 3, 1) := by decide +kernel
theorem dX13_setMerge_57 : decode cX13_setMerge 57 = .ok (.ireturn, 1) := by decide +kernel
theorem dX13_at_0 : decode cX13_at 0 = .ok (.aload_n 0, 1) := by decide +kernel
theorem dX13_at_1 : decode cX13_at 1 = .ok (.iload_n 1, 1) := by decide +kernel
set_option maxRecDepth 20000 in
theorem ggX13_at_X13_isTape : GoodIn wsX13_at wsX13_isTape := goodIn_r _ [5, 6, 7, 4, 8] (by decide +kernel) (by decide +kernel)
set_option maxRecDepth 20000 in
theorem gX13_at_X13_isTape : GoodIn wsX13_at (va_wsS RX13 44 yX13_isTape wsX13_isTape) := goodIn_app (goodIn_of _ (by decide +kernel)) ggX13_at_X13_isTape
theorem dX13_at_2 : decode cX13_at 2 = .ok (.invokestatic 44, 3) := by decide +kernel
theorem dX13_at_5 : decode cX13_at 5 = .ok (.ifCond .eq 24, 3) := by decide +kernel
theorem dX13_at_29 : decode cX13_at 29 = .ok (.iconst 0, 1) := by decide +kernel
theorem dX13_at_30 : decode cX13_at 30 = .ok (.iconst 1, 1) := by decide +kernel
theorem dX13_at_31 : decode cX13_at 31 = .ok (.iconst 1, 1) := by decide +kernel
set_option maxRecDepth 20000 in
theorem ggX13_at_X13_passes : GoodIn wsX13_at wsX13_passes := goodIn_r _ [12, 13, 14, 15, 16, 17, 18, 19, 20, 21, 22, 23, 24, 25, 26, 27] (by decide +kernel) (by decide +kernel)
set_option maxRecDepth 20000 in
theorem gX13_at_X13_passes : GoodIn wsX13_at (wsV RX13 55 RX13 yX13_passes wsX13_passes) := goodIn_app (goodIn_of _ (by decide +kernel)) ggX13_at_X13_passes
theorem dX13_at_32 : decode cX13_at 32 = .ok (.invokevirtual 55, 3) := by decide +kernel
theorem dX13_at_35 : decode cX13_at 35 = .ok (.ifCond .eq 14, 3) := by decide +kernel
theorem dX13_at_49 : decode cX13_at 49 = .ok (.iconst 0, 1) := by decide +kernel
theorem dX13_at_50 : decode cX13_at 50 = .ok (.ireturn, 1) := by decide +kernel
theorem dX13_at_8 : decode cX13_at 8 = .ok (.iload_n 2, 1) := by decide +kernel
theorem dX13_at_9 : decode cX13_at 9 = .ok (.iconst 0, 1) := by decide +kernel
theorem dX13_at_10 : decode cX13_at 10 = .ok (.aload_n 0, 1) := by decide +kernel
theorem dX13_at_11 : decode cX13_at 11 = .ok (.getfield 29, 3) := by decide +kernel
theorem dX13_at_14 : decode cX13_at 14 = .ok (.iload_n 1, 1) := by decide +kernel
theorem dX13_at_15 : decode cX13_at 15 = .ok (.aaload, 1) := by decide +kernel
theorem dX13_at_16 : decode cX13_at 16 = .ok (.arraylength, 1) := by decide +kernel
theorem dX13_at_17 : decode cX13_at 17 = .ok (.iconst 1, 1) := by decide +kernel
theorem dX13_at_18 : decode cX13_at 18 = .ok (.isub, 1) := by decide +kernel
set_option maxRecDepth 20000 in
theorem ggX13_at_X13_in : GoodIn wsX13_at wsX13_in := goodIn_r _ [8] (by decide +kernel) (by decide +kernel)
set_option maxRecDepth 20000 in
theorem gX13_at_X13_in : GoodIn wsX13_at (va_wsS RX13 7 yX13_in wsX13_in) := goodIn_app (goodIn_of _ (by decide +kernel)) ggX13_at_X13_in
theorem dX13_at_19 : decode cX13_at 19 = .ok (.invokestatic 7, 3) := by decide +kernel
theorem dX13_at_22 : decode cX13_at 22 = .ok (.ifCond .eq 7, 3) := by decide +kernel
theorem vin_r4 {x : Int32} (h : rngb x 0 4 = true) : vp_in x 5 := by
  obtain ⟨j, hj, rfl⟩ := rng_ex (n := 4) h rfl
  exact vp_in_nI (by omega) (by decide)
theorem stf_stv {x : Int32} (h : rngb x 0 4 = true) : stf x.toNatClampNeg = stv x := by
  obtain ⟨j, hj, rfl⟩ := rng_ex (n := 4) h rfl
  match j, hj with
  | 0, _ => exact (by decide)
  | 1, _ => exact (by decide)
  | 2, _ => exact (by decide)
  | 3, _ => exact (by decide)
  | 4, _ => exact (by decide)
set_option maxHeartbeats 4000000 in
set_option maxRecDepth 100000 in
theorem c_X13_setting (l : Launch) (dC : Nat → ClassId) (dI : Nat → Nat → Nat) (g : Nat → ClassId) (b : Nat → Nat) (r1 : Nat → Nat) (r2 : Nat → Nat) (x : Int32) (th : Int32) (sz : Nat) : Met l yX13_setting wsX13_setting ({ frames := 1, cells := 0, slots := 0, locals := 23 }) (va_Pc [.ref (b 0), .int x] (PG (dC, dI) g (modW b r1 r2 g th) sz)) (va_Qi (fun (r : Int32) (_ : Unit) => (cd (rngb x 0 4) true true) = 0 → r = stv x) (fun (_ : Unit) t => ∃ fs : List Value, va_P (dC, dI) vwCl [(b 0, .inr (15, .int (cd (rngb x 0 4) true true) :: fs))] t.heap) (va_A (modW b r1 r2 g th) sz)) 0 0 (va_A (modW b r1 r2 g th) sz) := by
  refine Met.ofW (cc := cX13_setting) (maxL := 2) (ret := (some .int)) (by decide) rfl ?_
  intro p e s m args below meth c s₁ B hml hv
  obtain ⟨rfl, hsz, hP, hK, hD0, hG⟩ := hv
  have hx := B.exec
  have hb := B.bytes
  have hr := B.returns
  have hts := atoms_spec (ws := wsX13_setting) B.pre
  have hown : s.vm.findClass RX13 = some m.cls := findClass_of_methodNamed B.named
  have hlocks := B.notSynchronized
  subst hsz
  have hD := hD0.self (sz := s.heap.size)
  generalize hAe : va_A (modW b r1 r2 g th) s.heap.size = A at hD hG ⊢
  have hA : ∀ q : Nat, s.heap.size ≤ q → A q := fun q h => by rw [← hAe]; exact Or.inr h
  have hS : va_S A s.heap s.heap [] := va_S.rf
  have hl := lv_entry ([.ref (b 0), .int x]) (n := 2) (Nat.le_of_ble_eq_true rfl)
  rw [lg_entry_eq]
  generalize (lg_sl ([.ref (b 0), .int x]) ++ List.replicate (2 - (lg_sl ([.ref (b 0), .int x])).length) Slot.unset).toArray = ls at hl ⊢
  have hl : lv_has ls 2 [(0, .ref (b 0)), (1, .int x)] := hl
  have hf35 := hts (Cond.fieldLink RX13 35 "RunmergeOfficeModel" "settings" "[I") (by decide +kernel)
  have hiX13 : ∀ w ∈ u_ws RX13 TX13 14, w ∈ wsX13_setting := by decide +kernel
  refine lv_aload_n hx hb dX13_setting_0 rfl (lv_at hl 0 rfl) ?_
  refine lv_iload_n hx hb dX13_setting_1 rfl (lv_at hl 1 rfl) ?_
  refine lv_iconst (v := 0) hx hb dX13_setting_2 (by decide) ?_
  refine lv_iconst (v := 4) hx hb dX13_setting_3 (by decide) ?_
  refine va_calli (va_runS (As := [.int x, .int 0, .int 4]) (rest := [.ref (b 0)]) ⟨hx, hb, hml, hown, hts⟩ (c_X13_in l dC dI g (modW b r1 r2 g th) x 0 4   s.heap.size) (va_cwS 3 hts gX13_setting_X13_in rfl rfl rfl (by decide +kernel) ⟨Nat.le_of_ble_eq_true rfl, Nat.le_of_ble_eq_true rfl⟩) ⟨PG_blind, PG_call hK hG hS hP hD (A_all hD hA hS.1)⟩ rfl rfl hl.1 rfl (lv_room (Nat.le_of_ble_eq_true rfl)) dX13_setting_4 ⟨Nat.le_of_ble_eq_true rfl, Nat.le_of_ble_eq_true rfl⟩) hS (fun q _ h => (A_all hD hA hS.1) q h) (A_all hD hA hS.1) (fun r_1 u_1 t_1 H_1 L_1 ht_1 hvm_1 hw_1 hB_1 hz_1 hk_1 hS => ?_)
  replace hB_1 := (show va_P (dC, dI) vwCl (modW b r1 r2 g th) t_1.heap from hB_1)
  rw [ht_1] at hB_1
  have hP := hB_1
  obtain rfl : r_1 = b2i (rngb x 0 4) := hw_1
  refine lv_iconst (v := 1) hx hb dX13_setting_7 (by decide) ?_
  refine lv_iconst (v := 1) hx hb dX13_setting_8 (by decide) ?_
  refine va_calli (va_runV (As := [.int (b2i (rngb x 0 4)), .int 1, .int 1]) (rest := []) ⟨hx, hb, hml, hown, hts⟩ (c_X13_passes l dC dI g b r1 r2 th (rngb x 0 4) true true  H_1.size) (cwV 3 hts gX13_setting_X13_passes rfl rfl rfl (by decide +kernel) ⟨Nat.le_of_ble_eq_true rfl, Nat.le_of_ble_eq_true rfl⟩) ⟨PG_blind, va_recv hK hP (ci := 15) (q0 := 0) rfl (m_0 b r1 r2 g th), PG_call hK hG hS hP hD (A_all hD hA hS.1)⟩ rfl rfl hl.1 rfl (lv_room (Nat.le_of_ble_eq_true rfl)) dX13_setting_9 ⟨Nat.le_of_ble_eq_true rfl, Nat.le_of_ble_eq_true rfl⟩) hS (fun q _ h => (A_all hD hA hS.1) q h) (A_all hD hA hS.1) (fun r_2 u_2 t_2 H_2 L_2 ht_2 hvm_2 hw_2 hB_2 hz_2 hk_2 hS => ?_)
  rw [ht_2] at hB_2
  have hP : va_P (dC, dI) vwCl (modW b r1 r2 g (cd (rngb x 0 4) true true)) H_2 := hB_2
  have hD : va_D A (modW b r1 r2 g (cd (rngb x 0 4) true true)) := va_D_th hD
  obtain rfl : r_2 = b2i (rngb x 0 4) := hw_2.trans (by simp)
  refine lv_if_eq (tgt := 24) hx hb dX13_setting_12 (by decide) (fun c_3 => ?_) (fun c_3 => ?_)
  · have hB_4 : (rngb x 0 4) = false := b2i_0 c_3
    refine lv_iconst (v := 0) hx hb dX13_setting_24 (by decide) ?_
    have hcd : (cd (rngb x 0 4) true true) = (cd (rngb x 0 4) true true) := rfl
    have hP8 := hP.sub (ws' := [((b 0), .inr (15, [.int (cd (rngb x 0 4) true true), .ref (b 1), .ref (b 2), .int 0, .ref (b 3), .ref (b 4), .ref (b 5), .null, .ref (b 6), .int 0, .int 0, .int 0, .int 0, .int 0]))]) [0] rfl
    rw [hcd] at hP8
    exact W.iret (v := 0) hx hb hr (fun t ht hW => ⟨⟨0, (), rfl, (fun h => by first | rfl | (exact absurd (cd_0.mp h) (by simp [hB_4]))), ⟨[.ref (b 1), .ref (b 2), .int 0, .ref (b 3), .ref (b 4), .ref (b 5), .null, .ref (b 6), .int 0, .int 0, .int 0, .int 0, .int 0], P_at ht hP8⟩⟩, hS.F ht⟩) hS.2.2 dX13_setting_25
  · have hB_4 : (rngb x 0 4) = true := b2i_1 c_3
    refine lv_aload_n hx hb dX13_setting_15 rfl (lv_at hl 0 rfl) ?_
    refine va_get (D := (dC, dI)) (ci := 15) (v := .ref (b 5)) (C := RX13) (T := TX13) (N := 14) hx hb hts hiX13 hown hK hP 0 (m_0 b r1 r2 g (cd (rngb x 0 4) true true)) rfl 6 (by decide) hf35 (fun _ h9 => h9) rfl dX13_setting_16 ?_
    refine lv_iload_n hx hb dX13_setting_19 rfl (lv_at hl 1 rfl) ?_
    refine va_iald hx hb hK hP 5 0 (m_5 b r1 r2 g (cd (rngb x 0 4) true true)) rfl (vin_r4 hB_4) dX13_setting_20 ?_
    refine lv_topi (fun x_5 ex_5 => ?_)
    refine lv_goto (tgt := 25) hx hb dX13_setting_21 (by decide) ?_
    have hcd : (cd (rngb x 0 4) true true) = (cd (rngb x 0 4) true true) := rfl
    have hP8 := hP.sub (ws' := [((b 0), .inr (15, [.int (cd (rngb x 0 4) true true), .ref (b 1), .ref (b 2), .int 0, .ref (b 3), .ref (b 4), .ref (b 5), .null, .ref (b 6), .int 0, .int 0, .int 0, .int 0, .int 0]))]) [0] rfl
    rw [hcd] at hP8
    exact W.iret (v := x_5) hx hb hr (fun t ht hW => ⟨⟨x_5, (), rfl, (fun _ => ex_5.trans (stf_stv hB_4)), ⟨[.ref (b 1), .ref (b 2), .int 0, .ref (b 3), .ref (b 4), .ref (b 5), .null, .ref (b 6), .int 0, .int 0, .int 0, .int 0, .int 0], P_at ht hP8⟩⟩, hS.F ht⟩) hS.2.2 dX13_setting_25
set_option maxHeartbeats 4000000 in
set_option maxRecDepth 100000 in
theorem c_X13_setRuns (l : Launch) (dC : Nat → ClassId) (dI : Nat → Nat → Nat) (g : Nat → ClassId) (b : Nat → Nat) (r1 : Nat → Nat) (r2 : Nat → Nat) (x : Int32) (rw : Int32) (me : Int32) (th : Int32) (sz : Nat) : Met l yX13_setRuns wsX13_setRuns ({ frames := 1, cells := 0, slots := 0, locals := 23 }) (va_Pc [.ref (b 0), .int x, .int rw, .int me] (PG (dC, dI) g (modW b r1 r2 g th) sz)) (va_Qi (fun (r : Int32) (_ : Unit) => (cd (rngb x 0 1 && rngb rw 0 2 && rngb me 1 50) true true) = 0 → r = 4) (fun (_ : Unit) t => ∃ fs : List Value, va_P (dC, dI) vwCl [(b 0, .inr (15, .int (cd (rngb x 0 1 && rngb rw 0 2 && rngb me 1 50) true true) :: fs))] t.heap) (va_A (modW b r1 r2 g th) sz)) 0 0 (va_A (modW b r1 r2 g th) sz) := by
  refine Met.ofW (cc := cX13_setRuns) (maxL := 5) (ret := (some .int)) (by decide) rfl ?_
  intro p e s m args below meth c s₁ B hml hv
  obtain ⟨rfl, hsz, hP, hK, hD0, hG⟩ := hv
  have hx := B.exec
  have hb := B.bytes
  have hr := B.returns
  have hts := atoms_spec (ws := wsX13_setRuns) B.pre
  have hown : s.vm.findClass RX13 = some m.cls := findClass_of_methodNamed B.named
  have hlocks := B.notSynchronized
  subst hsz
  have hD := hD0.self (sz := s.heap.size)
  generalize hAe : va_A (modW b r1 r2 g th) s.heap.size = A at hD hG ⊢
  have hA : ∀ q : Nat, s.heap.size ≤ q → A q := fun q h => by rw [← hAe]; exact Or.inr h
  have hS : va_S A s.heap s.heap [] := va_S.rf
  have hl := lv_entry ([.ref (b 0), .int x, .int rw, .int me]) (n := 5) (Nat.le_of_ble_eq_true rfl)
  rw [lg_entry_eq]
  generalize (lg_sl ([.ref (b 0), .int x, .int rw, .int me]) ++ List.replicate (5 - (lg_sl ([.ref (b 0), .int x, .int rw, .int me])).length) Slot.unset).toArray = ls at hl ⊢
  have hl : lv_has ls 5 [(0, .ref (b 0)), (1, .int x), (2, .int rw), (3, .int me)] := hl
  have hf35 := hts (Cond.fieldLink RX13 35 "RunmergeOfficeModel" "settings" "[I") (by decide +kernel)
  have hiX13 : ∀ w ∈ u_ws RX13 TX13 14, w ∈ wsX13_setRuns := by decide +kernel
  refine lv_aload_n hx hb dX13_setRuns_0 rfl (lv_at hl 0 rfl) ?_
  refine lv_iload_n hx hb dX13_setRuns_1 rfl (lv_at hl 1 rfl) ?_
  refine lv_iconst (v := 0) hx hb dX13_setRuns_2 (by decide) ?_
  refine lv_iconst (v := 1) hx hb dX13_setRuns_3 (by decide) ?_
  refine va_calli (va_runS (As := [.int x, .int 0, .int 1]) (rest := [.ref (b 0)]) ⟨hx, hb, hml, hown, hts⟩ (c_X13_in l dC dI g (modW b r1 r2 g th) x 0 1   s.heap.size) (va_cwS 3 hts gX13_setRuns_X13_in rfl rfl rfl (by decide +kernel) ⟨Nat.le_of_ble_eq_true rfl, Nat.le_of_ble_eq_true rfl⟩) ⟨PG_blind, PG_call hK hG hS hP hD (A_all hD hA hS.1)⟩ rfl rfl hl.1 rfl (lv_room (Nat.le_of_ble_eq_true rfl)) dX13_setRuns_4 ⟨Nat.le_of_ble_eq_true rfl, Nat.le_of_ble_eq_true rfl⟩) hS (fun q _ h => (A_all hD hA hS.1) q h) (A_all hD hA hS.1) (fun r_1 u_1 t_1 H_1 L_1 ht_1 hvm_1 hw_1 hB_1 hz_1 hk_1 hS => ?_)
  replace hB_1 := (show va_P (dC, dI) vwCl (modW b r1 r2 g th) t_1.heap from hB_1)
  rw [ht_1] at hB_1
  have hP := hB_1
  obtain rfl : r_1 = b2i (rngb x 0 1) := hw_1
  refine lv_if_eq (tgt := 33) hx hb dX13_setRuns_7 (by decide) (fun c_2 => ?_) (fun c_2 => ?_)
  · have hB_3 : (rngb x 0 1) = false := b2i_0 c_2
    refine lv_iconst (v := 0) hx hb dX13_setRuns_33 (by decide) ?_
    refine lv_iconst (v := 1) hx hb dX13_setRuns_34 (by decide) ?_
    refine lv_iconst (v := 1) hx hb dX13_setRuns_35 (by decide) ?_
    refine va_calli (va_runV (As := [.int 0, .int 1, .int 1]) (rest := []) ⟨hx, hb, hml, hown, hts⟩ (c_X13_passes l dC dI g b r1 r2 th false true true  H_1.size) (cwV 3 hts gX13_setRuns_X13_passes rfl rfl rfl (by decide +kernel) ⟨Nat.le_of_ble_eq_true rfl, Nat.le_of_ble_eq_true rfl⟩) ⟨PG_blind, va_recv hK hP (ci := 15) (q0 := 0) rfl (m_0 b r1 r2 g th), PG_call hK hG hS hP hD (A_all hD hA hS.1)⟩ rfl rfl hl.1 rfl (lv_room (Nat.le_of_ble_eq_true rfl)) dX13_setRuns_36 ⟨Nat.le_of_ble_eq_true rfl, Nat.le_of_ble_eq_true rfl⟩) hS (fun q _ h => (A_all hD hA hS.1) q h) (A_all hD hA hS.1) (fun r_4 u_4 t_4 H_4 L_4 ht_4 hvm_4 hw_4 hB_4 hz_4 hk_4 hS => ?_)
    rw [ht_4] at hB_4
    have hP : va_P (dC, dI) vwCl (modW b r1 r2 g (cd false true true)) H_4 := hB_4
    have hD : va_D A (modW b r1 r2 g (cd false true true)) := va_D_th hD
    obtain rfl : r_4 = 0 := hw_4.trans (by simp [b2i])
    refine lv_if_ne (tgt := 44) hx hb dX13_setRuns_39 (by decide) (fun c_5 => absurd (by decide) c_5) (fun c_5 => ?_)
    refine lv_iconst (v := 0) hx hb dX13_setRuns_42 (by decide) ?_
    have hcd : (cd false true true) = (cd (rngb x 0 1 && rngb rw 0 2 && rngb me 1 50) true true) := by simp [cd, hB_3]
    have hP8 := hP.sub (ws' := [((b 0), .inr (15, [.int (cd false true true), .ref (b 1), .ref (b 2), .int 0, .ref (b 3), .ref (b 4), .ref (b 5), .null, .ref (b 6), .int 0, .int 0, .int 0, .int 0, .int 0]))]) [0] rfl
    rw [hcd] at hP8
    exact W.iret (v := 0) hx hb hr (fun t ht hW => ⟨⟨0, (), rfl, (fun h => by first | rfl | (exact absurd (cd_0.mp h) (by simp [hB_3]))), ⟨[.ref (b 1), .ref (b 2), .int 0, .ref (b 3), .ref (b 4), .ref (b 5), .null, .ref (b 6), .int 0, .int 0, .int 0, .int 0, .int 0], P_at ht hP8⟩⟩, hS.F ht⟩) hS.2.2 dX13_setRuns_43
  · have hB_3 : (rngb x 0 1) = true := b2i_1 c_2
    refine lv_iload_n hx hb dX13_setRuns_10 rfl (lv_at hl 2 rfl) ?_
    refine lv_iconst (v := 0) hx hb dX13_setRuns_11 (by decide) ?_
    refine lv_iconst (v := 2) hx hb dX13_setRuns_12 (by decide) ?_
    refine va_calli (va_runS (As := [.int rw, .int 0, .int 2]) (rest := [.ref (b 0)]) ⟨hx, hb, hml, hown, hts⟩ (c_X13_in l dC dI g (modW b r1 r2 g th) rw 0 2   H_1.size) (va_cwS 3 hts gX13_setRuns_X13_in rfl rfl rfl (by decide +kernel) ⟨Nat.le_of_ble_eq_true rfl, Nat.le_of_ble_eq_true rfl⟩) ⟨PG_blind, PG_call hK hG hS hP hD (A_all hD hA hS.1)⟩ rfl rfl hl.1 rfl (lv_room (Nat.le_of_ble_eq_true rfl)) dX13_setRuns_13 ⟨Nat.le_of_ble_eq_true rfl, Nat.le_of_ble_eq_true rfl⟩) hS (fun q _ h => (A_all hD hA hS.1) q h) (A_all hD hA hS.1) (fun r_6 u_6 t_6 H_6 L_6 ht_6 hvm_6 hw_6 hB_6 hz_6 hk_6 hS => ?_)
    replace hB_6 := (show va_P (dC, dI) vwCl (modW b r1 r2 g th) t_6.heap from hB_6)
    rw [ht_6] at hB_6
    have hP := hB_6
    obtain rfl : r_6 = b2i (rngb rw 0 2) := hw_6
    refine lv_if_eq (tgt := 33) hx hb dX13_setRuns_16 (by decide) (fun c_7 => ?_) (fun c_7 => ?_)
    · have hB_8 : (rngb rw 0 2) = false := b2i_0 c_7
      refine lv_iconst (v := 0) hx hb dX13_setRuns_33 (by decide) ?_
      refine lv_iconst (v := 1) hx hb dX13_setRuns_34 (by decide) ?_
      refine lv_iconst (v := 1) hx hb dX13_setRuns_35 (by decide) ?_
      refine va_calli (va_runV (As := [.int 0, .int 1, .int 1]) (rest := []) ⟨hx, hb, hml, hown, hts⟩ (c_X13_passes l dC dI g b r1 r2 th false true true  H_6.size) (cwV 3 hts gX13_setRuns_X13_passes rfl rfl rfl (by decide +kernel) ⟨Nat.le_of_ble_eq_true rfl, Nat.le_of_ble_eq_true rfl⟩) ⟨PG_blind, va_recv hK hP (ci := 15) (q0 := 0) rfl (m_0 b r1 r2 g th), PG_call hK hG hS hP hD (A_all hD hA hS.1)⟩ rfl rfl hl.1 rfl (lv_room (Nat.le_of_ble_eq_true rfl)) dX13_setRuns_36 ⟨Nat.le_of_ble_eq_true rfl, Nat.le_of_ble_eq_true rfl⟩) hS (fun q _ h => (A_all hD hA hS.1) q h) (A_all hD hA hS.1) (fun r_9 u_9 t_9 H_9 L_9 ht_9 hvm_9 hw_9 hB_9 hz_9 hk_9 hS => ?_)
      rw [ht_9] at hB_9
      have hP : va_P (dC, dI) vwCl (modW b r1 r2 g (cd false true true)) H_9 := hB_9
      have hD : va_D A (modW b r1 r2 g (cd false true true)) := va_D_th hD
      obtain rfl : r_9 = 0 := hw_9.trans (by simp [b2i])
      refine lv_if_ne (tgt := 44) hx hb dX13_setRuns_39 (by decide) (fun c_10 => absurd (by decide) c_10) (fun c_10 => ?_)
      refine lv_iconst (v := 0) hx hb dX13_setRuns_42 (by decide) ?_
      have hcd : (cd false true true) = (cd (rngb x 0 1 && rngb rw 0 2 && rngb me 1 50) true true) := by simp [cd, hB_3, hB_8]
      have hP8 := hP.sub (ws' := [((b 0), .inr (15, [.int (cd false true true), .ref (b 1), .ref (b 2), .int 0, .ref (b 3), .ref (b 4), .ref (b 5), .null, .ref (b 6), .int 0, .int 0, .int 0, .int 0, .int 0]))]) [0] rfl
      rw [hcd] at hP8
      exact W.iret (v := 0) hx hb hr (fun t ht hW => ⟨⟨0, (), rfl, (fun h => by first | rfl | (exact absurd (cd_0.mp h) (by simp [hB_3, hB_8]))), ⟨[.ref (b 1), .ref (b 2), .int 0, .ref (b 3), .ref (b 4), .ref (b 5), .null, .ref (b 6), .int 0, .int 0, .int 0, .int 0, .int 0], P_at ht hP8⟩⟩, hS.F ht⟩) hS.2.2 dX13_setRuns_43
    · have hB_8 : (rngb rw 0 2) = true := b2i_1 c_7
      refine lv_iload_n hx hb dX13_setRuns_19 rfl (lv_at hl 3 rfl) ?_
      refine lv_iconst (v := 1) hx hb dX13_setRuns_20 (by decide) ?_
      refine lv_bipush (v := 50) hx hb dX13_setRuns_21 (by decide) ?_
      refine va_calli (va_runS (As := [.int me, .int 1, .int 50]) (rest := [.ref (b 0)]) ⟨hx, hb, hml, hown, hts⟩ (c_X13_in l dC dI g (modW b r1 r2 g th) me 1 50   H_6.size) (va_cwS 3 hts gX13_setRuns_X13_in rfl rfl rfl (by decide +kernel) ⟨Nat.le_of_ble_eq_true rfl, Nat.le_of_ble_eq_true rfl⟩) ⟨PG_blind, PG_call hK hG hS hP hD (A_all hD hA hS.1)⟩ rfl rfl hl.1 rfl (lv_room (Nat.le_of_ble_eq_true rfl)) dX13_setRuns_23 ⟨Nat.le_of_ble_eq_true rfl, Nat.le_of_ble_eq_true rfl⟩) hS (fun q _ h => (A_all hD hA hS.1) q h) (A_all hD hA hS.1) (fun r_11 u_11 t_11 H_11 L_11 ht_11 hvm_11 hw_11 hB_11 hz_11 hk_11 hS => ?_)
      replace hB_11 := (show va_P (dC, dI) vwCl (modW b r1 r2 g th) t_11.heap from hB_11)
      rw [ht_11] at hB_11
      have hP := hB_11
      obtain rfl : r_11 = b2i (rngb me 1 50) := hw_11
      refine lv_if_eq (tgt := 33) hx hb dX13_setRuns_26 (by decide) (fun c_12 => ?_) (fun c_12 => ?_)
      · have hB_13 : (rngb me 1 50) = false := b2i_0 c_12
        refine lv_iconst (v := 0) hx hb dX13_setRuns_33 (by decide) ?_
        refine lv_iconst (v := 1) hx hb dX13_setRuns_34 (by decide) ?_
        refine lv_iconst (v := 1) hx hb dX13_setRuns_35 (by decide) ?_
        refine va_calli (va_runV (As := [.int 0, .int 1, .int 1]) (rest := []) ⟨hx, hb, hml, hown, hts⟩ (c_X13_passes l dC dI g b r1 r2 th false true true  H_11.size) (cwV 3 hts gX13_setRuns_X13_passes rfl rfl rfl (by decide +kernel) ⟨Nat.le_of_ble_eq_true rfl, Nat.le_of_ble_eq_true rfl⟩) ⟨PG_blind, va_recv hK hP (ci := 15) (q0 := 0) rfl (m_0 b r1 r2 g th), PG_call hK hG hS hP hD (A_all hD hA hS.1)⟩ rfl rfl hl.1 rfl (lv_room (Nat.le_of_ble_eq_true rfl)) dX13_setRuns_36 ⟨Nat.le_of_ble_eq_true rfl, Nat.le_of_ble_eq_true rfl⟩) hS (fun q _ h => (A_all hD hA hS.1) q h) (A_all hD hA hS.1) (fun r_14 u_14 t_14 H_14 L_14 ht_14 hvm_14 hw_14 hB_14 hz_14 hk_14 hS => ?_)
        rw [ht_14] at hB_14
        have hP : va_P (dC, dI) vwCl (modW b r1 r2 g (cd false true true)) H_14 := hB_14
        have hD : va_D A (modW b r1 r2 g (cd false true true)) := va_D_th hD
        obtain rfl : r_14 = 0 := hw_14.trans (by simp [b2i])
        refine lv_if_ne (tgt := 44) hx hb dX13_setRuns_39 (by decide) (fun c_15 => absurd (by decide) c_15) (fun c_15 => ?_)
        refine lv_iconst (v := 0) hx hb dX13_setRuns_42 (by decide) ?_
        have hcd : (cd false true true) = (cd (rngb x 0 1 && rngb rw 0 2 && rngb me 1 50) true true) := by simp [cd, hB_3, hB_8, hB_13]
        have hP8 := hP.sub (ws' := [((b 0), .inr (15, [.int (cd false true true), .ref (b 1), .ref (b 2), .int 0, .ref (b 3), .ref (b 4), .ref (b 5), .null, .ref (b 6), .int 0, .int 0, .int 0, .int 0, .int 0]))]) [0] rfl
        rw [hcd] at hP8
        exact W.iret (v := 0) hx hb hr (fun t ht hW => ⟨⟨0, (), rfl, (fun h => by first | rfl | (exact absurd (cd_0.mp h) (by simp [hB_3, hB_8, hB_13]))), ⟨[.ref (b 1), .ref (b 2), .int 0, .ref (b 3), .ref (b 4), .ref (b 5), .null, .ref (b 6), .int 0, .int 0, .int 0, .int 0, .int 0], P_at ht hP8⟩⟩, hS.F ht⟩) hS.2.2 dX13_setRuns_43
      · have hB_13 : (rngb me 1 50) = true := b2i_1 c_12
        refine lv_iconst (v := 1) hx hb dX13_setRuns_29 (by decide) ?_
        refine lv_goto (tgt := 34) hx hb dX13_setRuns_30 (by decide) ?_
        refine lv_iconst (v := 1) hx hb dX13_setRuns_34 (by decide) ?_
        refine lv_iconst (v := 1) hx hb dX13_setRuns_35 (by decide) ?_
        refine va_calli (va_runV (As := [.int 1, .int 1, .int 1]) (rest := []) ⟨hx, hb, hml, hown, hts⟩ (c_X13_passes l dC dI g b r1 r2 th true true true  H_11.size) (cwV 3 hts gX13_setRuns_X13_passes rfl rfl rfl (by decide +kernel) ⟨Nat.le_of_ble_eq_true rfl, Nat.le_of_ble_eq_true rfl⟩) ⟨PG_blind, va_recv hK hP (ci := 15) (q0 := 0) rfl (m_0 b r1 r2 g th), PG_call hK hG hS hP hD (A_all hD hA hS.1)⟩ rfl rfl hl.1 rfl (lv_room (Nat.le_of_ble_eq_true rfl)) dX13_setRuns_36 ⟨Nat.le_of_ble_eq_true rfl, Nat.le_of_ble_eq_true rfl⟩) hS (fun q _ h => (A_all hD hA hS.1) q h) (A_all hD hA hS.1) (fun r_16 u_16 t_16 H_16 L_16 ht_16 hvm_16 hw_16 hB_16 hz_16 hk_16 hS => ?_)
        rw [ht_16] at hB_16
        have hP : va_P (dC, dI) vwCl (modW b r1 r2 g (cd true true true)) H_16 := hB_16
        have hD : va_D A (modW b r1 r2 g (cd true true true)) := va_D_th hD
        obtain rfl : r_16 = 1 := hw_16.trans (by simp [b2i])
        refine lv_if_ne (tgt := 44) hx hb dX13_setRuns_39 (by decide) (fun c_17 => ?_) (fun c_17 => absurd c_17 (by decide))
        have hP : va_P (dC, dI) vwCl [((b 0), .inr (15, [.int (cd true true true), .ref (b 1), .ref (b 2), .int 0, .ref (b 3), .ref (b 4), .ref (b 5), .null, .ref (b 6), .int 0, .int 0, .int 0, .int 0, .int 0])), ((b 5), .inl (g 0, 5, .inl stf))] H_16 := hP.sub [0, 5] rfl
        have hD : va_D A [((b 0), .inr (15, [.int (cd true true true), .ref (b 1), .ref (b 2), .int 0, .ref (b 3), .ref (b 4), .ref (b 5), .null, .ref (b 6), .int 0, .int 0, .int 0, .int 0, .int 0])), ((b 5), .inl (g 0, 5, .inl stf))] := hD.sub [0, 5] (by decide) rfl
        refine lv_aload_n hx hb dX13_setRuns_44 rfl (lv_at hl 0 rfl) ?_
        refine va_get (D := (dC, dI)) (ci := 15) (v := .ref (b 5)) (C := RX13) (T := TX13) (N := 14) hx hb hts hiX13 hown hK hP 0 rfl rfl 6 (by decide) hf35 (fun _ h9 => h9) rfl dX13_setRuns_45 ?_
        refine lv_iconst (v := 2) hx hb dX13_setRuns_48 (by decide) ?_
        refine va_iald hx hb hK hP 1 0 rfl rfl (by unfold vp_in; decide) dX13_setRuns_49 ?_
        refine lv_topi (fun x_18 ex_18 => ?_)
        obtain rfl : x_18 = 4 := ex_18.trans (by decide)
        refine lv_istore (lv' := [(4, .int 4), (0, .ref (b 0)), (1, .int x), (2, .int rw), (3, .int me)]) hx hb dX13_setRuns_50 hl (by decide) rfl (fun ls hl => ?_)
        refine lv_aload_n hx hb dX13_setRuns_52 rfl (lv_at hl 1 rfl) ?_
        refine va_get (D := (dC, dI)) (ci := 15) (v := .ref (b 5)) (C := RX13) (T := TX13) (N := 14) hx hb hts hiX13 hown hK hP 0 rfl rfl 6 (by decide) hf35 (fun _ h9 => h9) rfl dX13_setRuns_53 ?_
        refine lv_iconst (v := 0) hx hb dX13_setRuns_56 (by decide) ?_
        refine lv_iload_n hx hb dX13_setRuns_57 rfl (lv_at hl 2 rfl) ?_
        refine va_iast hx hb hK hP hD hS 1 0 rfl rfl (by unfold vp_in; decide) dX13_setRuns_58 (fun H_19 L_20 hP hD hS => ?_)
        have hP : va_P (dC, dI) vwCl [((b 0), .inr (15, [.int (cd true true true), .ref (b 1), .ref (b 2), .int 0, .ref (b 3), .ref (b 4), .ref (b 5), .null, .ref (b 6), .int 0, .int 0, .int 0, .int 0, .int 0])), ((b 5), .inl (g 0, 5, .inl (upd stf (0 : Int32).toNatClampNeg x)))] H_19 := hP
        have hD : va_D A [((b 0), .inr (15, [.int (cd true true true), .ref (b 1), .ref (b 2), .int 0, .ref (b 3), .ref (b 4), .ref (b 5), .null, .ref (b 6), .int 0, .int 0, .int 0, .int 0, .int 0])), ((b 5), .inl (g 0, 5, .inl (upd stf (0 : Int32).toNatClampNeg x)))] := hD
        refine lv_aload_n hx hb dX13_setRuns_59 rfl (lv_at hl 1 rfl) ?_
        refine va_get (D := (dC, dI)) (ci := 15) (v := .ref (b 5)) (C := RX13) (T := TX13) (N := 14) hx hb hts hiX13 hown hK hP 0 rfl rfl 6 (by decide) hf35 (fun _ h9 => h9) rfl dX13_setRuns_60 ?_
        refine lv_iconst (v := 1) hx hb dX13_setRuns_63 (by decide) ?_
        refine lv_iload_n hx hb dX13_setRuns_64 rfl (lv_at hl 3 rfl) ?_
        refine va_iast hx hb hK hP hD hS 1 0 rfl rfl (by unfold vp_in; decide) dX13_setRuns_65 (fun H_21 L_22 hP hD hS => ?_)
        have hP : va_P (dC, dI) vwCl [((b 0), .inr (15, [.int (cd true true true), .ref (b 1), .ref (b 2), .int 0, .ref (b 3), .ref (b 4), .ref (b 5), .null, .ref (b 6), .int 0, .int 0, .int 0, .int 0, .int 0])), ((b 5), .inl (g 0, 5, .inl (upd (upd stf (0 : Int32).toNatClampNeg x) (1 : Int32).toNatClampNeg rw)))] H_21 := hP
        have hD : va_D A [((b 0), .inr (15, [.int (cd true true true), .ref (b 1), .ref (b 2), .int 0, .ref (b 3), .ref (b 4), .ref (b 5), .null, .ref (b 6), .int 0, .int 0, .int 0, .int 0, .int 0])), ((b 5), .inl (g 0, 5, .inl (upd (upd stf (0 : Int32).toNatClampNeg x) (1 : Int32).toNatClampNeg rw)))] := hD
        refine lv_aload_n hx hb dX13_setRuns_66 rfl (lv_at hl 1 rfl) ?_
        refine va_get (D := (dC, dI)) (ci := 15) (v := .ref (b 5)) (C := RX13) (T := TX13) (N := 14) hx hb hts hiX13 hown hK hP 0 rfl rfl 6 (by decide) hf35 (fun _ h9 => h9) rfl dX13_setRuns_67 ?_
        refine lv_iconst (v := 2) hx hb dX13_setRuns_70 (by decide) ?_
        refine lv_iload_n hx hb dX13_setRuns_71 rfl (lv_at hl 4 rfl) ?_
        refine va_iast hx hb hK hP hD hS 1 0 rfl rfl (by unfold vp_in; decide) dX13_setRuns_72 (fun H_23 L_24 hP hD hS => ?_)
        have hP : va_P (dC, dI) vwCl [((b 0), .inr (15, [.int (cd true true true), .ref (b 1), .ref (b 2), .int 0, .ref (b 3), .ref (b 4), .ref (b 5), .null, .ref (b 6), .int 0, .int 0, .int 0, .int 0, .int 0])), ((b 5), .inl (g 0, 5, .inl (upd (upd (upd stf (0 : Int32).toNatClampNeg x) (1 : Int32).toNatClampNeg rw) (2 : Int32).toNatClampNeg me)))] H_23 := hP
        have hD : va_D A [((b 0), .inr (15, [.int (cd true true true), .ref (b 1), .ref (b 2), .int 0, .ref (b 3), .ref (b 4), .ref (b 5), .null, .ref (b 6), .int 0, .int 0, .int 0, .int 0, .int 0])), ((b 5), .inl (g 0, 5, .inl (upd (upd (upd stf (0 : Int32).toNatClampNeg x) (1 : Int32).toNatClampNeg rw) (2 : Int32).toNatClampNeg me)))] := hD
        refine lv_iload hx hb dX13_setRuns_73 (lv_at hl 0 rfl) ?_
        have hcd : (cd true true true) = (cd (rngb x 0 1 && rngb rw 0 2 && rngb me 1 50) true true) := by simp [cd, hB_3, hB_8, hB_13]
        have hP8 := hP.sub (ws' := [((b 0), .inr (15, [.int (cd true true true), .ref (b 1), .ref (b 2), .int 0, .ref (b 3), .ref (b 4), .ref (b 5), .null, .ref (b 6), .int 0, .int 0, .int 0, .int 0, .int 0]))]) [0] rfl
        rw [hcd] at hP8
        exact W.iret (v := 4) hx hb hr (fun t ht hW => ⟨⟨4, (), rfl, (fun h => by first | rfl | (exact absurd (cd_0.mp h) (by simp [hB_3, hB_8, hB_13]))), ⟨[.ref (b 1), .ref (b 2), .int 0, .ref (b 3), .ref (b 4), .ref (b 5), .null, .ref (b 6), .int 0, .int 0, .int 0, .int 0, .int 0], P_at ht hP8⟩⟩, hS.F ht⟩) hS.2.2 dX13_setRuns_75
set_option maxHeartbeats 4000000 in
set_option maxRecDepth 100000 in
theorem c_X13_setMerge (l : Launch) (dC : Nat → ClassId) (dI : Nat → Nat → Nat) (g : Nat → ClassId) (b : Nat → Nat) (r1 : Nat → Nat) (r2 : Nat → Nat) (x : Int32) (wy : Int32) (th : Int32) (sz : Nat) : Met l yX13_setMerge wsX13_setMerge ({ frames := 1, cells := 0, slots := 0, locals := 23 }) (va_Pc [.ref (b 0), .int x, .int wy] (PG (dC, dI) g (modW b r1 r2 g th) sz)) (va_Qi (fun (r : Int32) (_ : Unit) => (cd (rngb x 0 2 && rngb wy 2 6) true true) = 0 → r = 2) (fun (_ : Unit) t => ∃ fs : List Value, va_P (dC, dI) vwCl [(b 0, .inr (15, .int (cd (rngb x 0 2 && rngb wy 2 6) true true) :: fs))] t.heap) (va_A (modW b r1 r2 g th) sz)) 0 0 (va_A (modW b r1 r2 g th) sz) := by
  refine Met.ofW (cc := cX13_setMerge) (maxL := 4) (ret := (some .int)) (by decide) rfl ?_
  intro p e s m args below meth c s₁ B hml hv
  obtain ⟨rfl, hsz, hP, hK, hD0, hG⟩ := hv
  have hx := B.exec
  have hb := B.bytes
  have hr := B.returns
  have hts := atoms_spec (ws := wsX13_setMerge) B.pre
  have hown : s.vm.findClass RX13 = some m.cls := findClass_of_methodNamed B.named
  have hlocks := B.notSynchronized
  subst hsz
  have hD := hD0.self (sz := s.heap.size)
  generalize hAe : va_A (modW b r1 r2 g th) s.heap.size = A at hD hG ⊢
  have hA : ∀ q : Nat, s.heap.size ≤ q → A q := fun q h => by rw [← hAe]; exact Or.inr h
  have hS : va_S A s.heap s.heap [] := va_S.rf
  have hl := lv_entry ([.ref (b 0), .int x, .int wy]) (n := 4) (Nat.le_of_ble_eq_true rfl)
  rw [lg_entry_eq]
  generalize (lg_sl ([.ref (b 0), .int x, .int wy]) ++ List.replicate (4 - (lg_sl ([.ref (b 0), .int x, .int wy])).length) Slot.unset).toArray = ls at hl ⊢
  have hl : lv_has ls 4 [(0, .ref (b 0)), (1, .int x), (2, .int wy)] := hl
  have hf35 := hts (Cond.fieldLink RX13 35 "RunmergeOfficeModel" "settings" "[I") (by decide +kernel)
  have hiX13 : ∀ w ∈ u_ws RX13 TX13 14, w ∈ wsX13_setMerge := by decide +kernel
  refine lv_aload_n hx hb dX13_setMerge_0 rfl (lv_at hl 0 rfl) ?_
  refine lv_iload_n hx hb dX13_setMerge_1 rfl (lv_at hl 1 rfl) ?_
  refine lv_iconst (v := 0) hx hb dX13_setMerge_2 (by decide) ?_
  refine lv_iconst (v := 2) hx hb dX13_setMerge_3 (by decide) ?_
  refine va_calli (va_runS (As := [.int x, .int 0, .int 2]) (rest := [.ref (b 0)]) ⟨hx, hb, hml, hown, hts⟩ (c_X13_in l dC dI g (modW b r1 r2 g th) x 0 2   s.heap.size) (va_cwS 3 hts gX13_setMerge_X13_in rfl rfl rfl (by decide +kernel) ⟨Nat.le_of_ble_eq_true rfl, Nat.le_of_ble_eq_true rfl⟩) ⟨PG_blind, PG_call hK hG hS hP hD (A_all hD hA hS.1)⟩ rfl rfl hl.1 rfl (lv_room (Nat.le_of_ble_eq_true rfl)) dX13_setMerge_4 ⟨Nat.le_of_ble_eq_true rfl, Nat.le_of_ble_eq_true rfl⟩) hS (fun q _ h => (A_all hD hA hS.1) q h) (A_all hD hA hS.1) (fun r_1 u_1 t_1 H_1 L_1 ht_1 hvm_1 hw_1 hB_1 hz_1 hk_1 hS => ?_)
  replace hB_1 := (show va_P (dC, dI) vwCl (modW b r1 r2 g th) t_1.heap from hB_1)
  rw [ht_1] at hB_1
  have hP := hB_1
  obtain rfl : r_1 = b2i (rngb x 0 2) := hw_1
  refine lv_if_eq (tgt := 24) hx hb dX13_setMerge_7 (by decide) (fun c_2 => ?_) (fun c_2 => ?_)
  · have hB_3 : (rngb x 0 2) = false := b2i_0 c_2
    refine lv_iconst (v := 0) hx hb dX13_setMerge_24 (by decide) ?_
    refine lv_iconst (v := 1) hx hb dX13_setMerge_25 (by decide) ?_
    refine lv_iconst (v := 1) hx hb dX13_setMerge_26 (by decide) ?_
    refine va_calli (va_runV (As := [.int 0, .int 1, .int 1]) (rest := []) ⟨hx, hb, hml, hown, hts⟩ (c_X13_passes l dC dI g b r1 r2 th false true true  H_1.size) (cwV 3 hts gX13_setMerge_X13_passes rfl rfl rfl (by decide +kernel) ⟨Nat.le_of_ble_eq_true rfl, Nat.le_of_ble_eq_true rfl⟩) ⟨PG_blind, va_recv hK hP (ci := 15) (q0 := 0) rfl (m_0 b r1 r2 g th), PG_call hK hG hS hP hD (A_all hD hA hS.1)⟩ rfl rfl hl.1 rfl (lv_room (Nat.le_of_ble_eq_true rfl)) dX13_setMerge_27 ⟨Nat.le_of_ble_eq_true rfl, Nat.le_of_ble_eq_true rfl⟩) hS (fun q _ h => (A_all hD hA hS.1) q h) (A_all hD hA hS.1) (fun r_4 u_4 t_4 H_4 L_4 ht_4 hvm_4 hw_4 hB_4 hz_4 hk_4 hS => ?_)
    rw [ht_4] at hB_4
    have hP : va_P (dC, dI) vwCl (modW b r1 r2 g (cd false true true)) H_4 := hB_4
    have hD : va_D A (modW b r1 r2 g (cd false true true)) := va_D_th hD
    obtain rfl : r_4 = 0 := hw_4.trans (by simp [b2i])
    refine lv_if_ne (tgt := 35) hx hb dX13_setMerge_30 (by decide) (fun c_5 => absurd (by decide) c_5) (fun c_5 => ?_)
    refine lv_iconst (v := 0) hx hb dX13_setMerge_33 (by decide) ?_
    have hcd : (cd false true true) = (cd (rngb x 0 2 && rngb wy 2 6) true true) := by simp [cd, hB_3]
    have hP8 := hP.sub (ws' := [((b 0), .inr (15, [.int (cd false true true), .ref (b 1), .ref (b 2), .int 0, .ref (b 3), .ref (b 4), .ref (b 5), .null, .ref (b 6), .int 0, .int 0, .int 0, .int 0, .int 0]))]) [0] rfl
    rw [hcd] at hP8
    exact W.iret (v := 0) hx hb hr (fun t ht hW => ⟨⟨0, (), rfl, (fun h => by first | rfl | (exact absurd (cd_0.mp h) (by simp [hB_3]))), ⟨[.ref (b 1), .ref (b 2), .int 0, .ref (b 3), .ref (b 4), .ref (b 5), .null, .ref (b 6), .int 0, .int 0, .int 0, .int 0, .int 0], P_at ht hP8⟩⟩, hS.F ht⟩) hS.2.2 dX13_setMerge_34
  · have hB_3 : (rngb x 0 2) = true := b2i_1 c_2
    refine lv_iload_n hx hb dX13_setMerge_10 rfl (lv_at hl 2 rfl) ?_
    refine lv_iconst (v := 2) hx hb dX13_setMerge_11 (by decide) ?_
    refine lv_bipush (v := 6) hx hb dX13_setMerge_12 (by decide) ?_
    refine va_calli (va_runS (As := [.int wy, .int 2, .int 6]) (rest := [.ref (b 0)]) ⟨hx, hb, hml, hown, hts⟩ (c_X13_in l dC dI g (modW b r1 r2 g th) wy 2 6   H_1.size) (va_cwS 3 hts gX13_setMerge_X13_in rfl rfl rfl (by decide +kernel) ⟨Nat.le_of_ble_eq_true rfl, Nat.le_of_ble_eq_true rfl⟩) ⟨PG_blind, PG_call hK hG hS hP hD (A_all hD hA hS.1)⟩ rfl rfl hl.1 rfl (lv_room (Nat.le_of_ble_eq_true rfl)) dX13_setMerge_14 ⟨Nat.le_of_ble_eq_true rfl, Nat.le_of_ble_eq_true rfl⟩) hS (fun q _ h => (A_all hD hA hS.1) q h) (A_all hD hA hS.1) (fun r_6 u_6 t_6 H_6 L_6 ht_6 hvm_6 hw_6 hB_6 hz_6 hk_6 hS => ?_)
    replace hB_6 := (show va_P (dC, dI) vwCl (modW b r1 r2 g th) t_6.heap from hB_6)
    rw [ht_6] at hB_6
    have hP := hB_6
    obtain rfl : r_6 = b2i (rngb wy 2 6) := hw_6
    refine lv_if_eq (tgt := 24) hx hb dX13_setMerge_17 (by decide) (fun c_7 => ?_) (fun c_7 => ?_)
    · have hB_8 : (rngb wy 2 6) = false := b2i_0 c_7
      refine lv_iconst (v := 0) hx hb dX13_setMerge_24 (by decide) ?_
      refine lv_iconst (v := 1) hx hb dX13_setMerge_25 (by decide) ?_
      refine lv_iconst (v := 1) hx hb dX13_setMerge_26 (by decide) ?_
      refine va_calli (va_runV (As := [.int 0, .int 1, .int 1]) (rest := []) ⟨hx, hb, hml, hown, hts⟩ (c_X13_passes l dC dI g b r1 r2 th false true true  H_6.size) (cwV 3 hts gX13_setMerge_X13_passes rfl rfl rfl (by decide +kernel) ⟨Nat.le_of_ble_eq_true rfl, Nat.le_of_ble_eq_true rfl⟩) ⟨PG_blind, va_recv hK hP (ci := 15) (q0 := 0) rfl (m_0 b r1 r2 g th), PG_call hK hG hS hP hD (A_all hD hA hS.1)⟩ rfl rfl hl.1 rfl (lv_room (Nat.le_of_ble_eq_true rfl)) dX13_setMerge_27 ⟨Nat.le_of_ble_eq_true rfl, Nat.le_of_ble_eq_true rfl⟩) hS (fun q _ h => (A_all hD hA hS.1) q h) (A_all hD hA hS.1) (fun r_9 u_9 t_9 H_9 L_9 ht_9 hvm_9 hw_9 hB_9 hz_9 hk_9 hS => ?_)
      rw [ht_9] at hB_9
      have hP : va_P (dC, dI) vwCl (modW b r1 r2 g (cd false true true)) H_9 := hB_9
      have hD : va_D A (modW b r1 r2 g (cd false true true)) := va_D_th hD
      obtain rfl : r_9 = 0 := hw_9.trans (by simp [b2i])
      refine lv_if_ne (tgt := 35) hx hb dX13_setMerge_30 (by decide) (fun c_10 => absurd (by decide) c_10) (fun c_10 => ?_)
      refine lv_iconst (v := 0) hx hb dX13_setMerge_33 (by decide) ?_
      have hcd : (cd false true true) = (cd (rngb x 0 2 && rngb wy 2 6) true true) := by simp [cd, hB_3, hB_8]
      have hP8 := hP.sub (ws' := [((b 0), .inr (15, [.int (cd false true true), .ref (b 1), .ref (b 2), .int 0, .ref (b 3), .ref (b 4), .ref (b 5), .null, .ref (b 6), .int 0, .int 0, .int 0, .int 0, .int 0]))]) [0] rfl
      rw [hcd] at hP8
      exact W.iret (v := 0) hx hb hr (fun t ht hW => ⟨⟨0, (), rfl, (fun h => by first | rfl | (exact absurd (cd_0.mp h) (by simp [hB_3, hB_8]))), ⟨[.ref (b 1), .ref (b 2), .int 0, .ref (b 3), .ref (b 4), .ref (b 5), .null, .ref (b 6), .int 0, .int 0, .int 0, .int 0, .int 0], P_at ht hP8⟩⟩, hS.F ht⟩) hS.2.2 dX13_setMerge_34
    · have hB_8 : (rngb wy 2 6) = true := b2i_1 c_7
      refine lv_iconst (v := 1) hx hb dX13_setMerge_20 (by decide) ?_
      refine lv_goto (tgt := 25) hx hb dX13_setMerge_21 (by decide) ?_
      refine lv_iconst (v := 1) hx hb dX13_setMerge_25 (by decide) ?_
      refine lv_iconst (v := 1) hx hb dX13_setMerge_26 (by decide) ?_
      refine va_calli (va_runV (As := [.int 1, .int 1, .int 1]) (rest := []) ⟨hx, hb, hml, hown, hts⟩ (c_X13_passes l dC dI g b r1 r2 th true true true  H_6.size) (cwV 3 hts gX13_setMerge_X13_passes rfl rfl rfl (by decide +kernel) ⟨Nat.le_of_ble_eq_true rfl, Nat.le_of_ble_eq_true rfl⟩) ⟨PG_blind, va_recv hK hP (ci := 15) (q0 := 0) rfl (m_0 b r1 r2 g th), PG_call hK hG hS hP hD (A_all hD hA hS.1)⟩ rfl rfl hl.1 rfl (lv_room (Nat.le_of_ble_eq_true rfl)) dX13_setMerge_27 ⟨Nat.le_of_ble_eq_true rfl, Nat.le_of_ble_eq_true rfl⟩) hS (fun q _ h => (A_all hD hA hS.1) q h) (A_all hD hA hS.1) (fun r_11 u_11 t_11 H_11 L_11 ht_11 hvm_11 hw_11 hB_11 hz_11 hk_11 hS => ?_)
      rw [ht_11] at hB_11
      have hP : va_P (dC, dI) vwCl (modW b r1 r2 g (cd true true true)) H_11 := hB_11
      have hD : va_D A (modW b r1 r2 g (cd true true true)) := va_D_th hD
      obtain rfl : r_11 = 1 := hw_11.trans (by simp [b2i])
      refine lv_if_ne (tgt := 35) hx hb dX13_setMerge_30 (by decide) (fun c_12 => ?_) (fun c_12 => absurd c_12 (by decide))
      have hP : va_P (dC, dI) vwCl [((b 0), .inr (15, [.int (cd true true true), .ref (b 1), .ref (b 2), .int 0, .ref (b 3), .ref (b 4), .ref (b 5), .null, .ref (b 6), .int 0, .int 0, .int 0, .int 0, .int 0])), ((b 5), .inl (g 0, 5, .inl stf))] H_11 := hP.sub [0, 5] rfl
      have hD : va_D A [((b 0), .inr (15, [.int (cd true true true), .ref (b 1), .ref (b 2), .int 0, .ref (b 3), .ref (b 4), .ref (b 5), .null, .ref (b 6), .int 0, .int 0, .int 0, .int 0, .int 0])), ((b 5), .inl (g 0, 5, .inl stf))] := hD.sub [0, 5] (by decide) rfl
      refine lv_aload_n hx hb dX13_setMerge_35 rfl (lv_at hl 0 rfl) ?_
      refine va_get (D := (dC, dI)) (ci := 15) (v := .ref (b 5)) (C := RX13) (T := TX13) (N := 14) hx hb hts hiX13 hown hK hP 0 rfl rfl 6 (by decide) hf35 (fun _ h9 => h9) rfl dX13_setMerge_36 ?_
      refine lv_iconst (v := 4) hx hb dX13_setMerge_39 (by decide) ?_
      refine va_iald hx hb hK hP 1 0 rfl rfl (by unfold vp_in; decide) dX13_setMerge_40 ?_
      refine lv_topi (fun x_13 ex_13 => ?_)
      obtain rfl : x_13 = 2 := ex_13.trans (by decide)
      refine lv_istore_n (lv' := [(3, .int 2), (0, .ref (b 0)), (1, .int x), (2, .int wy)]) hx hb dX13_setMerge_41 rfl hl (by decide) rfl (fun ls hl => ?_)
      refine lv_aload_n hx hb dX13_setMerge_42 rfl (lv_at hl 1 rfl) ?_
      refine va_get (D := (dC, dI)) (ci := 15) (v := .ref (b 5)) (C := RX13) (T := TX13) (N := 14) hx hb hts hiX13 hown hK hP 0 rfl rfl 6 (by decide) hf35 (fun _ h9 => h9) rfl dX13_setMerge_43 ?_
      refine lv_iconst (v := 3) hx hb dX13_setMerge_46 (by decide) ?_
      refine lv_iload_n hx hb dX13_setMerge_47 rfl (lv_at hl 2 rfl) ?_
      refine va_iast hx hb hK hP hD hS 1 0 rfl rfl (by unfold vp_in; decide) dX13_setMerge_48 (fun H_14 L_15 hP hD hS => ?_)
      have hP : va_P (dC, dI) vwCl [((b 0), .inr (15, [.int (cd true true true), .ref (b 1), .ref (b 2), .int 0, .ref (b 3), .ref (b 4), .ref (b 5), .null, .ref (b 6), .int 0, .int 0, .int 0, .int 0, .int 0])), ((b 5), .inl (g 0, 5, .inl (upd stf (3 : Int32).toNatClampNeg x)))] H_14 := hP
      have hD : va_D A [((b 0), .inr (15, [.int (cd true true true), .ref (b 1), .ref (b 2), .int 0, .ref (b 3), .ref (b 4), .ref (b 5), .null, .ref (b 6), .int 0, .int 0, .int 0, .int 0, .int 0])), ((b 5), .inl (g 0, 5, .inl (upd stf (3 : Int32).toNatClampNeg x)))] := hD
      refine lv_aload_n hx hb dX13_setMerge_49 rfl (lv_at hl 1 rfl) ?_
      refine va_get (D := (dC, dI)) (ci := 15) (v := .ref (b 5)) (C := RX13) (T := TX13) (N := 14) hx hb hts hiX13 hown hK hP 0 rfl rfl 6 (by decide) hf35 (fun _ h9 => h9) rfl dX13_setMerge_50 ?_
      refine lv_iconst (v := 4) hx hb dX13_setMerge_53 (by decide) ?_
      refine lv_iload_n hx hb dX13_setMerge_54 rfl (lv_at hl 3 rfl) ?_
      refine va_iast hx hb hK hP hD hS 1 0 rfl rfl (by unfold vp_in; decide) dX13_setMerge_55 (fun H_16 L_17 hP hD hS => ?_)
      have hP : va_P (dC, dI) vwCl [((b 0), .inr (15, [.int (cd true true true), .ref (b 1), .ref (b 2), .int 0, .ref (b 3), .ref (b 4), .ref (b 5), .null, .ref (b 6), .int 0, .int 0, .int 0, .int 0, .int 0])), ((b 5), .inl (g 0, 5, .inl (upd (upd stf (3 : Int32).toNatClampNeg x) (4 : Int32).toNatClampNeg wy)))] H_16 := hP
      have hD : va_D A [((b 0), .inr (15, [.int (cd true true true), .ref (b 1), .ref (b 2), .int 0, .ref (b 3), .ref (b 4), .ref (b 5), .null, .ref (b 6), .int 0, .int 0, .int 0, .int 0, .int 0])), ((b 5), .inl (g 0, 5, .inl (upd (upd stf (3 : Int32).toNatClampNeg x) (4 : Int32).toNatClampNeg wy)))] := hD
      refine lv_iload_n hx hb dX13_setMerge_56 rfl (lv_at hl 0 rfl) ?_
      have hcd : (cd true true true) = (cd (rngb x 0 2 && rngb wy 2 6) true true) := by simp [cd, hB_3, hB_8]
      have hP8 := hP.sub (ws' := [((b 0), .inr (15, [.int (cd true true true), .ref (b 1), .ref (b 2), .int 0, .ref (b 3), .ref (b 4), .ref (b 5), .null, .ref (b 6), .int 0, .int 0, .int 0, .int 0, .int 0]))]) [0] rfl
      rw [hcd] at hP8
      exact W.iret (v := 2) hx hb hr (fun t ht hW => ⟨⟨2, (), rfl, (fun h => by first | rfl | (exact absurd (cd_0.mp h) (by simp [hB_3, hB_8]))), ⟨[.ref (b 1), .ref (b 2), .int 0, .ref (b 3), .ref (b 4), .ref (b 5), .null, .ref (b 6), .int 0, .int 0, .int 0, .int 0, .int 0], P_at ht hP8⟩⟩, hS.F ht⟩) hS.2.2 dX13_setMerge_57
set_option maxHeartbeats 4000000 in
set_option maxRecDepth 100000 in
theorem c_X13_at (l : Launch) (dC : Nat → ClassId) (dI : Nat → Nat → Nat) (g : Nat → ClassId) (b : Nat → Nat) (r1 : Nat → Nat) (r2 : Nat → Nat) (x : Int32) (pl : Int32) (th : Int32) (sz : Nat) : Met l yX13_at wsX13_at ({ frames := 2, cells := 0, slots := 0, locals := 42 }) (va_Pc [.ref (b 0), .int x, .int pl] (PG (dC, dI) g (modW b r1 r2 g th) sz)) (va_Qi (fun (_ : Int32) (_ : Unit) => True) (fun (_ : Unit) t => ∃ fs : List Value, va_P (dC, dI) vwCl [(b 0, .inr (15, .int (cd false true true) :: fs))] t.heap) (va_A (modW b r1 r2 g th) sz)) 0 0 (va_A (modW b r1 r2 g th) sz) := by
  refine Met.ofW (cc := cX13_at) (maxL := 3) (ret := (some .int)) (by decide) rfl ?_
  intro p e s m args below meth c s₁ B hml hv
  obtain ⟨rfl, hsz, hP, hK, hD0, hG⟩ := hv
  have hx := B.exec
  have hb := B.bytes
  have hr := B.returns
  have hts := atoms_spec (ws := wsX13_at) B.pre
  have hown : s.vm.findClass RX13 = some m.cls := findClass_of_methodNamed B.named
  have hlocks := B.notSynchronized
  subst hsz
  have hD := hD0.self (sz := s.heap.size)
  generalize hAe : va_A (modW b r1 r2 g th) s.heap.size = A at hD hG ⊢
  have hA : ∀ q : Nat, s.heap.size ≤ q → A q := fun q h => by rw [← hAe]; exact Or.inr h
  have hS : va_S A s.heap s.heap [] := va_S.rf
  have hl := lv_entry ([.ref (b 0), .int x, .int pl]) (n := 3) (Nat.le_of_ble_eq_true rfl)
  rw [lg_entry_eq]
  generalize (lg_sl ([.ref (b 0), .int x, .int pl]) ++ List.replicate (3 - (lg_sl ([.ref (b 0), .int x, .int pl])).length) Slot.unset).toArray = ls at hl ⊢
  have hl : lv_has ls 3 [(0, .ref (b 0)), (1, .int x), (2, .int pl)] := hl
  have hf29 := hts (Cond.fieldLink RX13 29 "RunmergeOfficeModel" "tapes" "[[I") (by decide +kernel)
  have hiX13 : ∀ w ∈ u_ws RX13 TX13 14, w ∈ wsX13_at := by decide +kernel
  refine lv_aload_n hx hb dX13_at_0 rfl (lv_at hl 0 rfl) ?_
  refine lv_iload_n hx hb dX13_at_1 rfl (lv_at hl 1 rfl) ?_
  refine va_calli (va_runS (As := [.int x]) (rest := [.ref (b 0)]) ⟨hx, hb, hml, hown, hts⟩ (c_X13_isTape l dC dI g (modW b r1 r2 g th) x   s.heap.size) (va_cwS 1 hts gX13_at_X13_isTape rfl rfl rfl (by decide +kernel) ⟨Nat.le_of_ble_eq_true rfl, Nat.le_of_ble_eq_true rfl⟩) ⟨PG_blind, PG_call hK hG hS hP hD (A_all hD hA hS.1)⟩ rfl rfl hl.1 rfl (lv_room (Nat.le_of_ble_eq_true rfl)) dX13_at_2 ⟨Nat.le_of_ble_eq_true rfl, Nat.le_of_ble_eq_true rfl⟩) hS (fun q _ h => (A_all hD hA hS.1) q h) (A_all hD hA hS.1) (fun r_1 u_1 t_1 H_1 L_1 ht_1 hvm_1 hw_1 hB_1 hz_1 hk_1 hS => ?_)
  replace hB_1 := (show va_P (dC, dI) vwCl (modW b r1 r2 g th) t_1.heap from hB_1)
  rw [ht_1] at hB_1
  have hP := hB_1
  obtain rfl : r_1 = b2i (TOKb x) := hw_1
  refine lv_if_eq (tgt := 29) hx hb dX13_at_5 (by decide) (fun c_2 => ?_) (fun c_2 => ?_)
  · have hB_3 : (TOKb x) = false := b2i_0 c_2
    refine lv_iconst (v := 0) hx hb dX13_at_29 (by decide) ?_
    refine lv_iconst (v := 1) hx hb dX13_at_30 (by decide) ?_
    refine lv_iconst (v := 1) hx hb dX13_at_31 (by decide) ?_
    refine va_calli (va_runV (As := [.int 0, .int 1, .int 1]) (rest := []) ⟨hx, hb, hml, hown, hts⟩ (c_X13_passes l dC dI g b r1 r2 th false true true  H_1.size) (cwV 3 hts gX13_at_X13_passes rfl rfl rfl (by decide +kernel) ⟨Nat.le_of_ble_eq_true rfl, Nat.le_of_ble_eq_true rfl⟩) ⟨PG_blind, va_recv hK hP (ci := 15) (q0 := 0) rfl (m_0 b r1 r2 g th), PG_call hK hG hS hP hD (A_all hD hA hS.1)⟩ rfl rfl hl.1 rfl (lv_room (Nat.le_of_ble_eq_true rfl)) dX13_at_32 ⟨Nat.le_of_ble_eq_true rfl, Nat.le_of_ble_eq_true rfl⟩) hS (fun q _ h => (A_all hD hA hS.1) q h) (A_all hD hA hS.1) (fun r_4 u_4 t_4 H_4 L_4 ht_4 hvm_4 hw_4 hB_4 hz_4 hk_4 hS => ?_)
    rw [ht_4] at hB_4
    have hP : va_P (dC, dI) vwCl (modW b r1 r2 g (cd false true true)) H_4 := hB_4
    have hD : va_D A (modW b r1 r2 g (cd false true true)) := va_D_th hD
    obtain rfl : r_4 = 0 := hw_4.trans (by simp [b2i])
    refine lv_if_eq (tgt := 49) hx hb dX13_at_35 (by decide) (fun c_5 => ?_) (fun c_5 => absurd (by decide) c_5)
    refine lv_iconst (v := 0) hx hb dX13_at_49 (by decide) ?_
    have hcd : (cd false true true) = (cd false true true) := rfl
    have hP8 := hP.sub (ws' := [((b 0), .inr (15, [.int (cd false true true), .ref (b 1), .ref (b 2), .int 0, .ref (b 3), .ref (b 4), .ref (b 5), .null, .ref (b 6), .int 0, .int 0, .int 0, .int 0, .int 0]))]) [0] rfl
    rw [hcd] at hP8
    exact W.iret (v := 0) hx hb hr (fun t ht hW => ⟨⟨0, (), rfl, trivial, ⟨[.ref (b 1), .ref (b 2), .int 0, .ref (b 3), .ref (b 4), .ref (b 5), .null, .ref (b 6), .int 0, .int 0, .int 0, .int 0, .int 0], P_at ht hP8⟩⟩, hS.F ht⟩) hS.2.2 dX13_at_50
  · have hB_3 : (TOKb x) = true := b2i_1 c_2
    obtain ⟨jx, hjx, rfl⟩ := TOK_ex hB_3
    obtain ⟨hP, hD⟩ := mod_x b r1 r2 g th jx hjx hP hD
    have hP : va_P (dC, dI) vwCl [((b 0), .inr (15, [.int th, .ref (b 1), .ref (b 2), .int 0, .ref (b 3), .ref (b 4), .ref (b 5), .null, .ref (b 6), .int 0, .int 0, .int 0, .int 0, .int 0])), ((b 3), .inl (g 4, 8, .inr (.inr (.inr (.inr (fun i => if i < 8 then some (r1 i) else none)))))), ((r1 jx), .inl (g 0, 0, .inl (fun _ => 0))), ((b 1), .inl (g 0, 200, .inl (fun _ => 0))), ((b 2), .inl (g 0, 200, .inl (fun _ => 0))), ((b 5), .inl (g 0, 5, .inl stf))] H_1 := hP
    have hD : va_D A [((b 0), .inr (15, [.int th, .ref (b 1), .ref (b 2), .int 0, .ref (b 3), .ref (b 4), .ref (b 5), .null, .ref (b 6), .int 0, .int 0, .int 0, .int 0, .int 0])), ((b 3), .inl (g 4, 8, .inr (.inr (.inr (.inr (fun i => if i < 8 then some (r1 i) else none)))))), ((r1 jx), .inl (g 0, 0, .inl (fun _ => 0))), ((b 1), .inl (g 0, 200, .inl (fun _ => 0))), ((b 2), .inl (g 0, 200, .inl (fun _ => 0))), ((b 5), .inl (g 0, 5, .inl stf))] := hD
    refine lv_iload_n hx hb dX13_at_8 rfl (lv_at hl 2 rfl) ?_
    refine lv_iconst (v := 0) hx hb dX13_at_9 (by decide) ?_
    refine lv_aload_n hx hb dX13_at_10 rfl (lv_at hl 0 rfl) ?_
    refine va_get (D := (dC, dI)) (ci := 15) (v := .ref (b 3)) (C := RX13) (T := TX13) (N := 14) hx hb hts hiX13 hown hK hP 0 rfl rfl 4 (by decide) hf29 (fun _ h9 => h9) rfl dX13_at_11 ?_
    refine lv_iload_n hx hb dX13_at_14 rfl (lv_at hl 1 rfl) ?_
    refine va_aldA hx hb hK hP 1 rfl (vp_in_nI hjx (by decide)) dX13_at_15 ?_
    refine W.eq (g2 := F0 m 16 ls [.ref (r1 jx), .int 0, .int pl, .ref (b 0)]) (by rw [nI_clamp (show jx < 2 ^ 31 by omega)]; simp only [if_pos hjx]; rfl) ?_
    refine va_alen hx hb hK hP 2 0 rfl rfl (v := 0) rfl dX13_at_16 ?_
    refine lv_iconst (v := 1) hx hb dX13_at_17 (by decide) ?_
    refine lv_isub hx hb dX13_at_18 ?_
    refine lv_topi (fun x_6 ex_6 => ?_)
    obtain rfl : x_6 = (-1) := ex_6.trans (by decide)
    refine va_calli (va_runS (As := [.int pl, .int 0, .int (-1)]) (rest := [.ref (b 0)]) ⟨hx, hb, hml, hown, hts⟩ (c_X13_in l dC dI g [((b 0), .inr (15, [.int th, .ref (b 1), .ref (b 2), .int 0, .ref (b 3), .ref (b 4), .ref (b 5), .null, .ref (b 6), .int 0, .int 0, .int 0, .int 0, .int 0])), ((b 3), .inl (g 4, 8, .inr (.inr (.inr (.inr (fun i => if i < 8 then some (r1 i) else none)))))), ((r1 jx), .inl (g 0, 0, .inl (fun _ => 0))), ((b 1), .inl (g 0, 200, .inl (fun _ => 0))), ((b 2), .inl (g 0, 200, .inl (fun _ => 0))), ((b 5), .inl (g 0, 5, .inl stf))] pl 0 (-1)   H_1.size) (va_cwS 3 hts gX13_at_X13_in rfl rfl rfl (by decide +kernel) ⟨Nat.le_of_ble_eq_true rfl, Nat.le_of_ble_eq_true rfl⟩) ⟨PG_blind, PG_call hK hG hS hP hD (A_all hD hA hS.1)⟩ rfl rfl hl.1 rfl (lv_room (Nat.le_of_ble_eq_true rfl)) dX13_at_19 ⟨Nat.le_of_ble_eq_true rfl, Nat.le_of_ble_eq_true rfl⟩) hS (fun q _ h => (A_all hD hA hS.1) q h) (A_all hD hA hS.1) (fun r_7 u_7 t_7 H_7 L_7 ht_7 hvm_7 hw_7 hB_7 hz_7 hk_7 hS => ?_)
    replace hB_7 := (show va_P (dC, dI) vwCl [((b 0), .inr (15, [.int th, .ref (b 1), .ref (b 2), .int 0, .ref (b 3), .ref (b 4), .ref (b 5), .null, .ref (b 6), .int 0, .int 0, .int 0, .int 0, .int 0])), ((b 3), .inl (g 4, 8, .inr (.inr (.inr (.inr (fun i => if i < 8 then some (r1 i) else none)))))), ((r1 jx), .inl (g 0, 0, .inl (fun _ => 0))), ((b 1), .inl (g 0, 200, .inl (fun _ => 0))), ((b 2), .inl (g 0, 200, .inl (fun _ => 0))), ((b 5), .inl (g 0, 5, .inl stf))] t_7.heap from hB_7)
    rw [ht_7] at hB_7
    have hP := hB_7
    obtain rfl : r_7 = b2i (rngb pl 0 (-1)) := hw_7
    refine lv_if_eq (tgt := 29) hx hb dX13_at_22 (by decide) (fun c_8 => ?_) (fun c_8 => absurd (by rw [(rng_n1 (x := pl))]; rfl) c_8)
    refine lv_iconst (v := 0) hx hb dX13_at_29 (by decide) ?_
    refine lv_iconst (v := 1) hx hb dX13_at_30 (by decide) ?_
    refine lv_iconst (v := 1) hx hb dX13_at_31 (by decide) ?_
    have hPc := hP.sub (ws' := [((b 0), .inr (15, [.int th, .ref (b 1), .ref (b 2), .int 0, .ref (b 3), .ref (b 4), .ref (b 5), .null, .ref (b 6), .int 0, .int 0, .int 0, .int 0, .int 0]))]) [0] rfl
    have hDc := hD.sub (ws' := [((b 0), .inr (15, [.int th, .ref (b 1), .ref (b 2), .int 0, .ref (b 3), .ref (b 4), .ref (b 5), .null, .ref (b 6), .int 0, .int 0, .int 0, .int 0, .int 0]))]) [0] (by decide) rfl
    have hFc := va_free (wc := [((b 0), .inr (15, [.int th, .ref (b 1), .ref (b 2), .int 0, .ref (b 3), .ref (b 4), .ref (b 5), .null, .ref (b 6), .int 0, .int 0, .int 0, .int 0, .int 0]))]) hD hS hA [0] rfl
    refine va_calli (va_runV (As := [.int 0, .int 1, .int 1]) (rest := []) ⟨hx, hb, hml, hown, hts⟩ (c_X13_passes_x l dC dI g b r1 r2 th false true true  H_7.size) (cwV 3 hts gX13_at_X13_passes rfl rfl rfl (by decide +kernel) ⟨Nat.le_of_ble_eq_true rfl, Nat.le_of_ble_eq_true rfl⟩) ⟨PG_blind, va_recv hK hP (ci := 15) (q0 := 0) rfl rfl, PG_call hK hG hS hPc hDc hFc⟩ rfl rfl hl.1 rfl (lv_room (Nat.le_of_ble_eq_true rfl)) dX13_at_32 ⟨Nat.le_of_ble_eq_true rfl, Nat.le_of_ble_eq_true rfl⟩) hS (fun q _ h => hFc q h) hFc (fun r_9 u_9 t_9 H_9 L_9 ht_9 hvm_9 hw_9 hB_9 hz_9 hk_9 hS => ?_)
    obtain ⟨hP1, hD1⟩ := hB_9
    rw [ht_9] at hP1
    obtain ⟨hP, hD⟩ := va_join (wr := [((b 3), .inl (g 4, 8, .inr (.inr (.inr (.inr (fun i => if i < 8 then some (r1 i) else none)))))), ((r1 jx), .inl (g 0, 0, .inl (fun _ => 0))), ((b 1), .inl (g 0, 200, .inl (fun _ => 0))), ((b 2), .inl (g 0, 200, .inl (fun _ => 0))), ((b 5), .inl (g 0, 5, .inl stf))]) (w1 := [((b 0), .inr (15, [.int (cd false true true), .ref (b 1), .ref (b 2), .int 0, .ref (b 3), .ref (b 4), .ref (b 5), .null, .ref (b 6), .int 0, .int 0, .int 0, .int 0, .int 0]))]) hP hD [0] [1, 2, 3, 4, 5] rfl rfl (by decide) (by decide) hk_9 hFc hP1 hD1
    have hP : va_P (dC, dI) vwCl [((b 3), .inl (g 4, 8, .inr (.inr (.inr (.inr (fun i => if i < 8 then some (r1 i) else none)))))), ((r1 jx), .inl (g 0, 0, .inl (fun _ => 0))), ((b 1), .inl (g 0, 200, .inl (fun _ => 0))), ((b 2), .inl (g 0, 200, .inl (fun _ => 0))), ((b 5), .inl (g 0, 5, .inl stf)), ((b 0), .inr (15, [.int (cd false true true), .ref (b 1), .ref (b 2), .int 0, .ref (b 3), .ref (b 4), .ref (b 5), .null, .ref (b 6), .int 0, .int 0, .int 0, .int 0, .int 0]))] H_9 := hP
    have hD : va_D A [((b 3), .inl (g 4, 8, .inr (.inr (.inr (.inr (fun i => if i < 8 then some (r1 i) else none)))))), ((r1 jx), .inl (g 0, 0, .inl (fun _ => 0))), ((b 1), .inl (g 0, 200, .inl (fun _ => 0))), ((b 2), .inl (g 0, 200, .inl (fun _ => 0))), ((b 5), .inl (g 0, 5, .inl stf)), ((b 0), .inr (15, [.int (cd false true true), .ref (b 1), .ref (b 2), .int 0, .ref (b 3), .ref (b 4), .ref (b 5), .null, .ref (b 6), .int 0, .int 0, .int 0, .int 0, .int 0]))] := hD
    obtain rfl : r_9 = 0 := hw_9.trans (by simp [b2i])
    refine lv_if_eq (tgt := 49) hx hb dX13_at_35 (by decide) (fun c_10 => ?_) (fun c_10 => absurd (by decide) c_10)
    refine lv_iconst (v := 0) hx hb dX13_at_49 (by decide) ?_
    have hcd : (cd false true true) = (cd false true true) := rfl
    have hP8 := hP.sub (ws' := [((b 0), .inr (15, [.int (cd false true true), .ref (b 1), .ref (b 2), .int 0, .ref (b 3), .ref (b 4), .ref (b 5), .null, .ref (b 6), .int 0, .int 0, .int 0, .int 0, .int 0]))]) [5] rfl
    rw [hcd] at hP8
    exact W.iret (v := 0) hx hb hr (fun t ht hW => ⟨⟨0, (), rfl, trivial, ⟨[.ref (b 1), .ref (b 2), .int 0, .ref (b 3), .ref (b 4), .ref (b 5), .null, .ref (b 6), .int 0, .int 0, .int 0, .int 0, .int 0], P_at ht hP8⟩⟩, hS.F ht⟩) hS.2.2 dX13_at_50
