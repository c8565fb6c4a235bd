theorem dX13_records_0 : decode cX13_records 0 = .ok (.aload_n 0, 1) := by decide +kernel
theorem dX13_records_1 : decode cX13_records 1 = .ok (.iconst 0, 1) := by decide +kernel
theorem dX13_records_2 : decode cX13_records 2 = .ok (.putfield 1, 3) := by decide +kernel
theorem dX13_records_5 : decode cX13_records 5 = .ok (.aload_n 0, 1) := by decide +kernel
theorem dX13_records_6 : decode cX13_records 6 = .ok (.getfield 41, 3) := by decide +kernel
theorem dX13_records_9 : decode cX13_records 9 = .ok (.ireturn, 1) := by decide +kernel
theorem dX13_clearText_0 : decode cX13_clearText 0 = .ok (.aload_n 0, 1) := by decide +kernel
theorem dX13_clearText_1 : decode cX13_clearText 1 = .ok (.iconst 0, 1) := by decide +kernel
theorem dX13_clearText_2 : decode cX13_clearText 2 = .ok (.putfield 1, 3) := by decide +kernel
theorem dX13_clearText_5 : decode cX13_clearText 5 = .ok (.aload_n 0, 1) := by decide +kernel
theorem dX13_clearText_6 : decode cX13_clearText 6 = .ok (.getfield 218, 3) := by decide +kernel
theorem dX13_clearText_9 : decode cX13_clearText 9 = .ok (.istore_n 1, 1) := by decide +kernel
theorem dX13_clearText_10 : decode cX13_clearText 10 = .ok (.aload_n 0, 1) := by decide +kernel
theorem dX13_clearText_11 : decode cX13_clearText 11 = .ok (.iconst 0, 1) := by decide +kernel
theorem dX13_clearText_12 : decode cX13_clearText 12 = .ok (.putfield 218, 3) := by decide +kernel
theorem dX13_clearText_15 : decode cX13_clearText 15 = .ok (.iload_n 1, 1) := by decide +kernel
theorem dX13_clearText_16 : decode cX13_clearText 16 = .ok (.ireturn, 1) := by decide +kernel
theorem dX13_textLength_0 : decode cX13_textLength 0 = .ok (.aload_n 0, 1) := by decide +kernel
theorem dX13_textLength_1 : decode cX13_textLength 1 = .ok (.iconst 0, 1) := by decide +kernel
theorem dX13_textLength_2 : decode cX13_textLength 2 = .ok (.putfield 1, 3) := by decide +kernel
theorem dX13_textLength_5 : decode cX13_textLength 5 = .ok (.aload_n 0, 1) := by decide +kernel
theorem dX13_textLength_6 : decode cX13_textLength 6 = .ok (.getfield 218, 3) := by decide +kernel
theorem dX13_textLength_9 : decode cX13_textLength 9 = .ok (.ireturn, 1) := by decide +kernel
theorem dX13_key_0 : decode cX13_key 0 = .ok (.aload_n 0, 1) := by decide +kernel
theorem dX13_key_1 : decode cX13_key 1 = .ok (.iload_n 1, 1) := by decide +kernel
theorem dX13_key_2 : decode cX13_key 2 = .ok (.iconst 0, 1) := by decide +kernel
theorem dX13_key_3 : decode cX13_key 3 = .ok (.aload_n 0, 1) := by decide +kernel
theorem dX13_key_4 : decode cX13_key 4 = .ok (.getfield 41, 3) := by decide +kernel
theorem dX13_key_7 : decode cX13_key 7 = .ok (.iconst 1, 1) := by decide +kernel
theorem dX13_key_8 : decode cX13_key 8 = .ok (.isub, 1) := by decide +kernel
set_option maxRecDepth 20000 in
theorem ggX13_key_X13_in : GoodIn wsX13_key wsX13_in := goodIn_r _ [6] (by decide +kernel) (by decide +kernel)
set_option maxRecDepth 20000 in
theorem gX13_key_X13_in : GoodIn wsX13_key (va_wsS RX13 7 yX13_in wsX13_in) := goodIn_app (goodIn_of _ (by decide +kernel)) ggX13_key_X13_in
theorem dX13_key_9 : decode cX13_key 9 = .ok (.invokestatic 7, 3) := by decide +kernel
theorem dX13_key_12 : decode cX13_key 12 = .ok (.iconst 1, 1) := by decide +kernel
theorem dX13_key_13 : decode cX13_key 13 = .ok (.iconst 1, 1) := by decide +kernel
set_option maxRecDepth 20000 in
theorem ggX13_key_X13_passes : GoodIn wsX13_key wsX13_passes := goodIn_r _ [10, 11, 12, 13, 14, 15, 16, 17, 18, 19, 20, 21, 22, 23, 24, 25] (by decide +kernel) (by decide +kernel)
set_option maxRecDepth 20000 in
theorem gX13_key_X13_passes : GoodIn wsX13_key (wsV RX13 55 RX13 yX13_passes wsX13_passes) := goodIn_app (goodIn_of _ (by decide +kernel)) ggX13_key_X13_passes
theorem dX13_key_14 : decode cX13_key 14 = .ok (.invokevirtual 55, 3) := by decide +kernel
theorem dX13_key_17 : decode cX13_key 17 = .ok (.ifCond .eq 12, 3) := by decide +kernel
theorem dX13_key_29 : decode cX13_key 29 = .ok (.iconst 0, 1) := by decide +kernel
theorem dX13_key_30 : decode cX13_key 30 = .ok (.ireturn, 1) := by decide +kernel
theorem dX13_mark_0 : decode cX13_mark 0 = .ok (.aload_n 0, 1) := by decide +kernel
theorem dX13_mark_1 : decode cX13_mark 1 = .ok (.iload_n 1, 1) := by decide +kernel
theorem dX13_mark_2 : decode cX13_mark 2 = .ok (.iconst 0, 1) := by decide +kernel
theorem dX13_mark_3 : decode cX13_mark 3 = .ok (.aload_n 0, 1) := by decide +kernel
theorem dX13_mark_4 : decode cX13_mark 4 = .ok (.getfield 41, 3) := by decide +kernel
theorem dX13_mark_7 : decode cX13_mark 7 = .ok (.iconst 1, 1) := by decide +kernel
theorem dX13_mark_8 : decode cX13_mark 8 = .ok (.isub, 1) := by decide +kernel
set_option maxRecDepth 20000 in
theorem ggX13_mark_X13_in : GoodIn wsX13_mark wsX13_in := goodIn_r _ [6] (by decide +kernel) (by decide +kernel)
set_option maxRecDepth 20000 in
theorem gX13_mark_X13_in : GoodIn wsX13_mark (va_wsS RX13 7 yX13_in wsX13_in) := goodIn_app (goodIn_of _ (by decide +kernel)) ggX13_mark_X13_in
theorem dX13_mark_9 : decode cX13_mark 9 = .ok (.invokestatic 7, 3) := by decide +kernel
theorem dX13_mark_12 : decode cX13_mark 12 = .ok (.iconst 1, 1) := by decide +kernel
theorem dX13_mark_13 : decode cX13_mark 13 = .ok (.iconst 1, 1) := by decide +kernel
set_option maxRecDepth 20000 in
theorem ggX13_mark_X13_passes : GoodIn wsX13_mark wsX13_passes := goodIn_r _ [10, 11, 12, 13, 14, 15, 16, 17, 18, 19, 20, 21, 22, 23, 24, 25] (by decide +kernel) (by decide +kernel)
set_option maxRecDepth 20000 in
theorem gX13_mark_X13_passes : GoodIn wsX13_mark (wsV RX13 55 RX13 yX13_passes wsX13_passes) := goodIn_app (goodIn_of _ (by decide +kernel)) ggX13_mark_X13_passes
theorem dX13_mark_14 : decode cX13_mark 14 = .ok (.invokevirtual 55, 3) := by decide +kernel
theorem dX13_mark_17 : decode cX13_mark 17 = .ok (.ifCond .eq 12, 3) := by decide +kernel
theorem dX13_mark_29 : decode cX13_mark 29 = .ok (.iconst 0, 1) := by decide +kernel
theorem dX13_mark_30 : decode cX13_mark 30 = .ok (.ireturn, 1) := by decide +kernel
theorem dX13_work_0 : decode cX13_work 0 = .ok (.aload_n 0, 1) := by decide +kernel
theorem dX13_work_1 : decode cX13_work 1 = .ok (.iload_n 1, 1) := by decide +kernel
theorem dX13_work_2 : decode cX13_work 2 = .ok (.iconst 1, 1) := by decide +kernel
theorem dX13_work_3 : decode cX13_work 3 = .ok (.sipush 200, 3) := by decide +kernel
set_option maxRecDepth 20000 in
theorem ggX13_work_X13_in : GoodIn wsX13_work wsX13_in := goodIn_r _ [5] (by decide +kernel) (by decide +kernel)
set_option maxRecDepth 20000 in
theorem gX13_work_X13_in : GoodIn wsX13_work (va_wsS RX13 7 yX13_in wsX13_in) := goodIn_app (goodIn_of _ (by decide +kernel)) ggX13_work_X13_in
theorem dX13_work_6 : decode cX13_work 6 = .ok (.invokestatic 7, 3) := by decide +kernel
theorem dX13_work_9 : decode cX13_work 9 = .ok (.aload_n 0, 1) := by decide +kernel
theorem dX13_work_10 : decode cX13_work 10 = .ok (.getfield 166, 3) := by decide +kernel
theorem dX13_work_13 : decode cX13_work 13 = .ok (.ifnull 17, 3) := by decide +kernel
theorem dX13_work_30 : decode cX13_work 30 = .ok (.iconst 0, 1) := by decide +kernel
theorem dX13_work_31 : decode cX13_work 31 = .ok (.iconst 1, 1) := by decide +kernel
set_option maxRecDepth 20000 in
theorem ggX13_work_X13_passes : GoodIn wsX13_work wsX13_passes := goodIn_r _ [43, 44, 170, 171, 172, 173, 174, 175, 176, 177, 178, 179, 180, 181, 182, 183] (by decide +kernel) (by decide +kernel)
set_option maxRecDepth 20000 in
theorem gX13_work_X13_passes : GoodIn wsX13_work (wsV RX13 55 RX13 yX13_passes wsX13_passes) := goodIn_app (goodIn_of _ (by decide +kernel)) ggX13_work_X13_passes
theorem dX13_work_32 : decode cX13_work 32 = .ok (.invokevirtual 55, 3) := by decide +kernel
theorem dX13_work_35 : decode cX13_work 35 = .ok (.ifCond .ne 5, 3) := by decide +kernel
theorem dX13_work_38 : decode cX13_work 38 = .ok (.iconst 0, 1) := by decide +kernel
theorem dX13_work_39 : decode cX13_work 39 = .ok (.ireturn, 1) := by decide +kernel
theorem dX13_tear_0 : decode cX13_tear 0 = .ok (.aload_n 0, 1) := by decide +kernel
theorem dX13_tear_1 : decode cX13_tear 1 = .ok (.aload_n 0, 1) := by decide +kernel
theorem dX13_tear_2 : decode cX13_tear 2 = .ok (.getfield 166, 3) := by decide +kernel
theorem dX13_tear_5 : decode cX13_tear 5 = .ok (.ifnull 17, 3) := by decide +kernel
theorem dX13_tear_22 : decode cX13_tear 22 = .ok (.iconst 0, 1) := by decide +kernel
theorem dX13_tear_23 : decode cX13_tear 23 = .ok (.iconst 1, 1) := by decide +kernel
theorem dX13_tear_24 : decode cX13_tear 24 = .ok (.iconst 1, 1) := by decide +kernel
set_option maxRecDepth 20000 in
theorem ggX13_tear_X13_passes : GoodIn wsX13_tear wsX13_passes := goodIn_r _ [40, 41, 68, 69, 70, 71, 72, 73, 74, 75, 76, 77, 78, 79, 80, 81] (by decide +kernel) (by decide +kernel)
set_option maxRecDepth 20000 in
theorem gX13_tear_X13_passes : GoodIn wsX13_tear (wsV RX13 55 RX13 yX13_passes wsX13_passes) := goodIn_app (goodIn_of _ (by decide +kernel)) ggX13_tear_X13_passes
theorem dX13_tear_25 : decode cX13_tear 25 = .ok (.invokevirtual 55, 3) := by decide +kernel
theorem dX13_tear_28 : decode cX13_tear 28 = .ok (.ifCond .eq 13, 3) := by decide +kernel
theorem dX13_tear_41 : decode cX13_tear 41 = .ok (.iconst 0, 1) := by decide +kernel
theorem dX13_tear_42 : decode cX13_tear 42 = .ok (.ireturn, 1) := by decide +kernel
theorem dX13_job_0 : decode cX13_job 0 = .ok (.aload_n 0, 1) := by decide +kernel
theorem dX13_job_1 : decode cX13_job 1 = .ok (.iload_n 1, 1) := by decide +kernel
theorem dX13_job_2 : decode cX13_job 2 = .ok (.iconst 0, 1) := by decide +kernel
theorem dX13_job_3 : decode cX13_job 3 = .ok (.bipush 7, 2) := by decide +kernel
set_option maxRecDepth 20000 in
theorem ggX13_job_X13_in : GoodIn wsX13_job wsX13_in := goodIn_r _ [6] (by decide +kernel) (by decide +kernel)
set_option maxRecDepth 20000 in
theorem gX13_job_X13_in : GoodIn wsX13_job (va_wsS RX13 7 yX13_in wsX13_in) := goodIn_app (goodIn_of _ (by decide +kernel)) ggX13_job_X13_in
theorem dX13_job_5 : decode cX13_job 5 = .ok (.invokestatic 7, 3) := by decide +kernel
theorem dX13_job_8 : decode cX13_job 8 = .ok (.aload_n 0, 1) := by decide +kernel
theorem dX13_job_9 : decode cX13_job 9 = .ok (.getfield 166, 3) := by decide +kernel
theorem dX13_job_12 : decode cX13_job 12 = .ok (.ifnull 7, 3) := by decide +kernel
theorem dX13_job_19 : decode cX13_job 19 = .ok (.iconst 0, 1) := by decide +kernel
theorem dX13_job_20 : decode cX13_job 20 = .ok (.iconst 1, 1) := by decide +kernel
set_option maxRecDepth 20000 in
theorem ggX13_job_X13_passes : GoodIn wsX13_job wsX13_passes := goodIn_r _ [10, 11, 56, 57, 58, 59, 60, 61, 62, 63, 64, 65, 66, 67, 68, 69] (by decide +kernel) (by decide +kernel)
set_option maxRecDepth 20000 in
theorem gX13_job_X13_passes : GoodIn wsX13_job (wsV RX13 55 RX13 yX13_passes wsX13_passes) := goodIn_app (goodIn_of _ (by decide +kernel)) ggX13_job_X13_passes
theorem dX13_job_21 : decode cX13_job 21 = .ok (.invokevirtual 55, 3) := by decide +kernel
theorem dX13_job_24 : decode cX13_job 24 = .ok (.ifCond .ne 5, 3) := by decide +kernel
theorem dX13_job_27 : decode cX13_job 27 = .ok (.iconst 0, 1) := by decide +kernel
theorem dX13_job_28 : decode cX13_job 28 = .ok (.ireturn, 1) := by decide +kernel
theorem rng_n1 {x : Int32} : rngb x 0 (-1) = false := by
  cases h : decide ((0 : Int32) ≤ x) with
  | false => simp [rngb, h]
  | true => cases h2 : decide (x ≤ (-1 : Int32)) with
    | false => simp [rngb, h2]
    | true => exact absurd (Int32.le_trans (of_decide_eq_true h) (of_decide_eq_true h2)) (by decide)
set_option maxHeartbeats 4000000 in
set_option maxRecDepth 100000 in
theorem c_X13_records (l : Launch) (dC : Nat → ClassId) (dI : Nat → Nat → Nat) (g : Nat → ClassId) (b : Nat → Nat) (r1 : Nat → Nat) (r2 : Nat → Nat) (th : Int32) (sz : Nat) : Met l yX13_records wsX13_records ({ frames := 0, cells := 0, slots := 0, locals := 0 }) (va_Pc [.ref (b 0)] (PG (dC, dI) g (modW b r1 r2 g th) sz)) (va_Qi (fun (r : Int32) (_ : Unit) => (cd true true true) = 0 → r = 0) (fun (_ : Unit) t => ∃ fs : List Value, va_P (dC, dI) vwCl [(b 0, .inr (15, .int (cd true true true) :: fs))] t.heap) (va_A (modW b r1 r2 g th) sz)) 0 0 (va_A (modW b r1 r2 g th) sz) := by
  refine Met.ofW (cc := cX13_records) (maxL := 1) (ret := (some .int)) (by decide) rfl ?_
  intro p e s m args below meth c s₁ B hml hv
  obtain ⟨rfl, hsz, hP, hK, hD0, hG⟩ := hv
  have hx := B.exec
  have hb := B.bytes
  have hr := B.returns
  have hts := atoms_spec (ws := wsX13_records) B.pre
  have hown : s.vm.findClass RX13 = some m.cls := findClass_of_methodNamed B.named
  have hlocks := B.notSynchronized
  subst hsz
  have hD := hD0.self (sz := s.heap.size)
  generalize hAe : va_A (modW b r1 r2 g th) s.heap.size = A at hD hG ⊢
  have hA : ∀ q : Nat, s.heap.size ≤ q → A q := fun q h => by rw [← hAe]; exact Or.inr h
  have hS : va_S A s.heap s.heap [] := va_S.rf
  have hl := lv_entry ([.ref (b 0)]) (n := 1) (Nat.le_of_ble_eq_true rfl)
  rw [lg_entry_eq]
  generalize (lg_sl ([.ref (b 0)]) ++ List.replicate (1 - (lg_sl ([.ref (b 0)])).length) Slot.unset).toArray = ls at hl ⊢
  have hl : lv_has ls 1 [(0, .ref (b 0))] := hl
  have hf1 := hts (Cond.fieldLink RX13 1 "RunmergeOfficeModel" "thrown" "I") (by decide +kernel)
  have hiX13 : ∀ w ∈ u_ws RX13 TX13 14, w ∈ wsX13_records := by decide +kernel
  have hf41 := hts (Cond.fieldLink RX13 41 "RunmergeOfficeModel" "records" "I") (by decide +kernel)
  refine lv_aload_n hx hb dX13_records_0 rfl (lv_at hl 0 rfl) ?_
  refine lv_iconst (v := 0) hx hb dX13_records_1 (by decide) ?_
  refine va_put (D := (dC, dI)) (ci := 15) (v := .int 0) (ty := .int) (C := RX13) (T := TX13) (N := 14) hx hb hts hiX13 tyX13 tyX13_ok nmX13 hown hK hP hD hS 0 (m_0 b r1 r2 g th) rfl 0 (by decide) hf1 (fun _ h9 => h9) rfl (by decide +kernel) rfl rfl (Nat.le_of_ble_eq_true rfl) dX13_records_2 (fun H_1 L_2 hP hD hS => ?_)
  have hP : va_P (dC, dI) vwCl (modW b r1 r2 g 0) H_1 := hP
  have hD : va_D A (modW b r1 r2 g 0) := hD
  refine lv_aload_n hx hb dX13_records_5 rfl (lv_at hl 0 rfl) ?_
  refine va_get (D := (dC, dI)) (ci := 15) (v := .int 0) (C := RX13) (T := TX13) (N := 14) hx hb hts hiX13 hown hK hP 0 (m_0 b r1 r2 g 0) rfl 3 (by decide) hf41 (fun _ h9 => h9) rfl dX13_records_6 ?_
  have hcd : 0 = (cd true true true) := by simp [cd]
  have hP8 := hP.sub (ws' := [((b 0), .inr (15, [.int 0, .ref (b 1), .ref (b 2), .int 0, .ref (b 3), .ref (b 4), .ref (b 5), .null, .ref (b 6), .int 0, .int 0, .int 0, .int 0, .int 0]))]) [0] rfl
  rw [hcd] at hP8
  exact W.iret (v := 0) hx hb hr (fun t ht hW => ⟨⟨0, (), rfl, (fun h => by first | rfl | (exact absurd (cd_0.mp h) (by simp []))), ⟨[.ref (b 1), .ref (b 2), .int 0, .ref (b 3), .ref (b 4), .ref (b 5), .null, .ref (b 6), .int 0, .int 0, .int 0, .int 0, .int 0], P_at ht hP8⟩⟩, hS.F ht⟩) hS.2.2 dX13_records_9
set_option maxHeartbeats 4000000 in
set_option maxRecDepth 100000 in
theorem c_X13_clearText (l : Launch) (dC : Nat → ClassId) (dI : Nat → Nat → Nat) (g : Nat → ClassId) (b : Nat → Nat) (r1 : Nat → Nat) (r2 : Nat → Nat) (th : Int32) (sz : Nat) : Met l yX13_clearText wsX13_clearText ({ frames := 0, cells := 0, slots := 0, locals := 0 }) (va_Pc [.ref (b 0)] (PG (dC, dI) g (modW b r1 r2 g th) sz)) (va_Qi (fun (r : Int32) (_ : Unit) => (cd true true true) = 0 → r = 0) (fun (_ : Unit) t => ∃ fs : List Value, va_P (dC, dI) vwCl [(b 0, .inr (15, .int (cd true true true) :: fs))] t.heap) (va_A (modW b r1 r2 g th) sz)) 0 0 (va_A (modW b r1 r2 g th) sz) := by
  refine Met.ofW (cc := cX13_clearText) (maxL := 2) (ret := (some .int)) (by decide) rfl ?_
  intro p e s m args below meth c s₁ B hml hv
  obtain ⟨rfl, hsz, hP, hK, hD0, hG⟩ := hv
  have hx := B.exec
  have hb := B.bytes
  have hr := B.returns
  have hts := atoms_spec (ws := wsX13_clearText) B.pre
  have hown : s.vm.findClass RX13 = some m.cls := findClass_of_methodNamed B.named
  have hlocks := B.notSynchronized
  subst hsz
  have hD := hD0.self (sz := s.heap.size)
  generalize hAe : va_A (modW b r1 r2 g th) s.heap.size = A at hD hG ⊢
  have hA : ∀ q : Nat, s.heap.size ≤ q → A q := fun q h => by rw [← hAe]; exact Or.inr h
  have hS : va_S A s.heap s.heap [] := va_S.rf
  have hl := lv_entry ([.ref (b 0)]) (n := 2) (Nat.le_of_ble_eq_true rfl)
  rw [lg_entry_eq]
  generalize (lg_sl ([.ref (b 0)]) ++ List.replicate (2 - (lg_sl ([.ref (b 0)])).length) Slot.unset).toArray = ls at hl ⊢
  have hl : lv_has ls 2 [(0, .ref (b 0))] := hl
  have hf1 := hts (Cond.fieldLink RX13 1 "RunmergeOfficeModel" "thrown" "I") (by decide +kernel)
  have hiX13 : ∀ w ∈ u_ws RX13 TX13 14, w ∈ wsX13_clearText := by decide +kernel
  have hf218 := hts (Cond.fieldLink RX13 218 "RunmergeOfficeModel" "textMany" "I") (by decide +kernel)
  refine lv_aload_n hx hb dX13_clearText_0 rfl (lv_at hl 0 rfl) ?_
  refine lv_iconst (v := 0) hx hb dX13_clearText_1 (by decide) ?_
  refine va_put (D := (dC, dI)) (ci := 15) (v := .int 0) (ty := .int) (C := RX13) (T := TX13) (N := 14) hx hb hts hiX13 tyX13 tyX13_ok nmX13 hown hK hP hD hS 0 (m_0 b r1 r2 g th) rfl 0 (by decide) hf1 (fun _ h9 => h9) rfl (by decide +kernel) rfl rfl (Nat.le_of_ble_eq_true rfl) dX13_clearText_2 (fun H_1 L_2 hP hD hS => ?_)
  have hP : va_P (dC, dI) vwCl (modW b r1 r2 g 0) H_1 := hP
  have hD : va_D A (modW b r1 r2 g 0) := hD
  refine lv_aload_n hx hb dX13_clearText_5 rfl (lv_at hl 0 rfl) ?_
  refine va_get (D := (dC, dI)) (ci := 15) (v := .int 0) (C := RX13) (T := TX13) (N := 14) hx hb hts hiX13 hown hK hP 0 (m_0 b r1 r2 g 0) rfl 9 (by decide) hf218 (fun _ h9 => h9) rfl dX13_clearText_6 ?_
  refine lv_istore_n (lv' := [(1, .int 0), (0, .ref (b 0))]) hx hb dX13_clearText_9 rfl hl (by decide) rfl (fun ls hl => ?_)
  refine lv_aload_n hx hb dX13_clearText_10 rfl (lv_at hl 1 rfl) ?_
  refine lv_iconst (v := 0) hx hb dX13_clearText_11 (by decide) ?_
  refine va_putS (D := (dC, dI)) (ci := 15) (v := .int 0) (ty := .int) (C := RX13) (T := TX13) (N := 14) hx hb hts hiX13 tyX13 tyX13_ok nmX13 hown hK hP hD hS 0 (m_0 b r1 r2 g 0) rfl 9 (by decide) hf218 (fun _ h9 => h9) rfl (by decide +kernel) rfl rfl (Nat.le_of_ble_eq_true rfl) rfl dX13_clearText_12 (fun H_3 L_4 hP hS => ?_)
  refine lv_iload_n hx hb dX13_clearText_15 rfl (lv_at hl 0 rfl) ?_
  have hcd : 0 = (cd true true true) := by simp [cd]
  have hP8 := hP.sub (ws' := [((b 0), .inr (15, [.int 0, .ref (b 1), .ref (b 2), .int 0, .ref (b 3), .ref (b 4), .ref (b 5), .null, .ref (b 6), .int 0, .int 0, .int 0, .int 0, .int 0]))]) [0] rfl
  rw [hcd] at hP8
  exact W.iret (v := 0) hx hb hr (fun t ht hW => ⟨⟨0, (), rfl, (fun h => by first | rfl | (exact absurd (cd_0.mp h) (by simp []))), ⟨[.ref (b 1), .ref (b 2), .int 0, .ref (b 3), .ref (b 4), .ref (b 5), .null, .ref (b 6), .int 0, .int 0, .int 0, .int 0, .int 0], P_at ht hP8⟩⟩, hS.F ht⟩) hS.2.2 dX13_clearText_16
set_option maxHeartbeats 4000000 in
set_option maxRecDepth 100000 in
theorem c_X13_textLength (l : Launch) (dC : Nat → ClassId) (dI : Nat → Nat → Nat) (g : Nat → ClassId) (b : Nat → Nat) (r1 : Nat → Nat) (r2 : Nat → Nat) (th : Int32) (sz : Nat) : Met l yX13_textLength wsX13_textLength ({ frames := 0, cells := 0, slots := 0, locals := 0 }) (va_Pc [.ref (b 0)] (PG (dC, dI) g (modW b r1 r2 g th) sz)) (va_Qi (fun (r : Int32) (_ : Unit) => (cd true true true) = 0 → r = 0) (fun (_ : Unit) t => ∃ fs : List Value, va_P (dC, dI) vwCl [(b 0, .inr (15, .int (cd true true true) :: fs))] t.heap) (va_A (modW b r1 r2 g th) sz)) 0 0 (va_A (modW b r1 r2 g th) sz) := by
  refine Met.ofW (cc := cX13_textLength) (maxL := 1) (ret := (some .int)) (by decide) rfl ?_
  intro p e s m args below meth c s₁ B hml hv
  obtain ⟨rfl, hsz, hP, hK, hD0, hG⟩ := hv
  have hx := B.exec
  have hb := B.bytes
  have hr := B.returns
  have hts := atoms_spec (ws := wsX13_textLength) B.pre
  have hown : s.vm.findClass RX13 = some m.cls := findClass_of_methodNamed B.named
  have hlocks := B.notSynchronized
  subst hsz
  have hD := hD0.self (sz := s.heap.size)
  generalize hAe : va_A (modW b r1 r2 g th) s.heap.size = A at hD hG ⊢
  have hA : ∀ q : Nat, s.heap.size ≤ q → A q := fun q h => by rw [← hAe]; exact Or.inr h
  have hS : va_S A s.heap s.heap [] := va_S.rf
  have hl := lv_entry ([.ref (b 0)]) (n := 1) (Nat.le_of_ble_eq_true rfl)
  rw [lg_entry_eq]
  generalize (lg_sl ([.ref (b 0)]) ++ List.replicate (1 - (lg_sl ([.ref (b 0)])).length) Slot.unset).toArray = ls at hl ⊢
  have hl : lv_has ls 1 [(0, .ref (b 0))] := hl
  have hf1 := hts (Cond.fieldLink RX13 1 "RunmergeOfficeModel" "thrown" "I") (by decide +kernel)
  have hiX13 : ∀ w ∈ u_ws RX13 TX13 14, w ∈ wsX13_textLength := by decide +kernel
  have hf218 := hts (Cond.fieldLink RX13 218 "RunmergeOfficeModel" "textMany" "I") (by decide +kernel)
  refine lv_aload_n hx hb dX13_textLength_0 rfl (lv_at hl 0 rfl) ?_
  refine lv_iconst (v := 0) hx hb dX13_textLength_1 (by decide) ?_
  refine va_put (D := (dC, dI)) (ci := 15) (v := .int 0) (ty := .int) (C := RX13) (T := TX13) (N := 14) hx hb hts hiX13 tyX13 tyX13_ok nmX13 hown hK hP hD hS 0 (m_0 b r1 r2 g th) rfl 0 (by decide) hf1 (fun _ h9 => h9) rfl (by decide +kernel) rfl rfl (Nat.le_of_ble_eq_true rfl) dX13_textLength_2 (fun H_1 L_2 hP hD hS => ?_)
  have hP : va_P (dC, dI) vwCl (modW b r1 r2 g 0) H_1 := hP
  have hD : va_D A (modW b r1 r2 g 0) := hD
  refine lv_aload_n hx hb dX13_textLength_5 rfl (lv_at hl 0 rfl) ?_
  refine va_get (D := (dC, dI)) (ci := 15) (v := .int 0) (C := RX13) (T := TX13) (N := 14) hx hb hts hiX13 hown hK hP 0 (m_0 b r1 r2 g 0) rfl 9 (by decide) hf218 (fun _ h9 => h9) rfl dX13_textLength_6 ?_
  have hcd : 0 = (cd true true true) := by simp [cd]
  have hP8 := hP.sub (ws' := [((b 0), .inr (15, [.int 0, .ref (b 1), .ref (b 2), .int 0, .ref (b 3), .ref (b 4), .ref (b 5), .null, .ref (b 6), .int 0, .int 0, .int 0, .int 0, .int 0]))]) [0] rfl
  rw [hcd] at hP8
  exact W.iret (v := 0) hx hb hr (fun t ht hW => ⟨⟨0, (), rfl, (fun h => by first | rfl | (exact absurd (cd_0.mp h) (by simp []))), ⟨[.ref (b 1), .ref (b 2), .int 0, .ref (b 3), .ref (b 4), .ref (b 5), .null, .ref (b 6), .int 0, .int 0, .int 0, .int 0, .int 0], P_at ht hP8⟩⟩, hS.F ht⟩) hS.2.2 dX13_textLength_9
set_option maxHeartbeats 4000000 in
set_option maxRecDepth 100000 in
theorem c_X13_key (l : Launch) (dC : Nat → ClassId) (dI : Nat → Nat → Nat) (g : Nat → ClassId) (b : Nat → Nat) (r1 : Nat → Nat) (r2 : Nat → Nat) (x : Int32) (th : Int32) (sz : Nat) : Met l yX13_key wsX13_key ({ frames := 1, cells := 0, slots := 0, locals := 23 }) (va_Pc [.ref (b 0), .int x] (PG (dC, dI) g (modW b r1 r2 g th) sz)) (va_Qi (fun (_ : Int32) (_ : Unit) => True) (fun (_ : Unit) t => ∃ fs : List Value, va_P (dC, dI) vwCl [(b 0, .inr (15, .int (cd false true true) :: fs))] t.heap) (va_A (modW b r1 r2 g th) sz)) 0 0 (va_A (modW b r1 r2 g th) sz) := by
  refine Met.ofW (cc := cX13_key) (maxL := 2) (ret := (some .int)) (by decide) rfl ?_
  intro p e s m args below meth c s₁ B hml hv
  obtain ⟨rfl, hsz, hP, hK, hD0, hG⟩ := hv
  have hx := B.exec
  have hb := B.bytes
  have hr := B.returns
  have hts := atoms_spec (ws := wsX13_key) B.pre
  have hown : s.vm.findClass RX13 = some m.cls := findClass_of_methodNamed B.named
  have hlocks := B.notSynchronized
  subst hsz
  have hD := hD0.self (sz := s.heap.size)
  generalize hAe : va_A (modW b r1 r2 g th) s.heap.size = A at hD hG ⊢
  have hA : ∀ q : Nat, s.heap.size ≤ q → A q := fun q h => by rw [← hAe]; exact Or.inr h
  have hS : va_S A s.heap s.heap [] := va_S.rf
  have hl := lv_entry ([.ref (b 0), .int x]) (n := 2) (Nat.le_of_ble_eq_true rfl)
  rw [lg_entry_eq]
  generalize (lg_sl ([.ref (b 0), .int x]) ++ List.replicate (2 - (lg_sl ([.ref (b 0), .int x])).length) Slot.unset).toArray = ls at hl ⊢
  have hl : lv_has ls 2 [(0, .ref (b 0)), (1, .int x)] := hl
  have hf41 := hts (Cond.fieldLink RX13 41 "RunmergeOfficeModel" "records" "I") (by decide +kernel)
  have hiX13 : ∀ w ∈ u_ws RX13 TX13 14, w ∈ wsX13_key := by decide +kernel
  refine lv_aload_n hx hb dX13_key_0 rfl (lv_at hl 0 rfl) ?_
  refine lv_iload_n hx hb dX13_key_1 rfl (lv_at hl 1 rfl) ?_
  refine lv_iconst (v := 0) hx hb dX13_key_2 (by decide) ?_
  refine lv_aload_n hx hb dX13_key_3 rfl (lv_at hl 0 rfl) ?_
  refine va_get (D := (dC, dI)) (ci := 15) (v := .int 0) (C := RX13) (T := TX13) (N := 14) hx hb hts hiX13 hown hK hP 0 (m_0 b r1 r2 g th) rfl 3 (by decide) hf41 (fun _ h9 => h9) rfl dX13_key_4 ?_
  refine lv_iconst (v := 1) hx hb dX13_key_7 (by decide) ?_
  refine lv_isub hx hb dX13_key_8 ?_
  refine lv_topi (fun x_1 ex_1 => ?_)
  obtain rfl : x_1 = (-1) := ex_1.trans (by decide)
  refine va_calli (va_runS (As := [.int x, .int 0, .int (-1)]) (rest := [.ref (b 0)]) ⟨hx, hb, hml, hown, hts⟩ (c_X13_in l dC dI g (modW b r1 r2 g th) x 0 (-1)   s.heap.size) (va_cwS 3 hts gX13_key_X13_in rfl rfl rfl (by decide +kernel) ⟨Nat.le_of_ble_eq_true rfl, Nat.le_of_ble_eq_true rfl⟩) ⟨PG_blind, PG_call hK hG hS hP hD (A_all hD hA hS.1)⟩ rfl rfl hl.1 rfl (lv_room (Nat.le_of_ble_eq_true rfl)) dX13_key_9 ⟨Nat.le_of_ble_eq_true rfl, Nat.le_of_ble_eq_true rfl⟩) hS (fun q _ h => (A_all hD hA hS.1) q h) (A_all hD hA hS.1) (fun r_2 u_2 t_2 H_2 L_2 ht_2 hvm_2 hw_2 hB_2 hz_2 hk_2 hS => ?_)
  replace hB_2 := (show va_P (dC, dI) vwCl (modW b r1 r2 g th) t_2.heap from hB_2)
  rw [ht_2] at hB_2
  have hP := hB_2
  obtain rfl : r_2 = b2i (rngb x 0 (-1)) := hw_2
  refine lv_iconst (v := 1) hx hb dX13_key_12 (by decide) ?_
  refine lv_iconst (v := 1) hx hb dX13_key_13 (by decide) ?_
  refine va_calli (va_runV (As := [.int (b2i (rngb x 0 (-1))), .int 1, .int 1]) (rest := []) ⟨hx, hb, hml, hown, hts⟩ (c_X13_passes l dC dI g b r1 r2 th (rngb x 0 (-1)) true true  H_2.size) (cwV 3 hts gX13_key_X13_passes rfl rfl rfl (by decide +kernel) ⟨Nat.le_of_ble_eq_true rfl, Nat.le_of_ble_eq_true rfl⟩) ⟨PG_blind, va_recv hK hP (ci := 15) (q0 := 0) rfl (m_0 b r1 r2 g th), PG_call hK hG hS hP hD (A_all hD hA hS.1)⟩ rfl rfl hl.1 rfl (lv_room (Nat.le_of_ble_eq_true rfl)) dX13_key_14 ⟨Nat.le_of_ble_eq_true rfl, Nat.le_of_ble_eq_true rfl⟩) hS (fun q _ h => (A_all hD hA hS.1) q h) (A_all hD hA hS.1) (fun r_3 u_3 t_3 H_3 L_3 ht_3 hvm_3 hw_3 hB_3 hz_3 hk_3 hS => ?_)
  rw [ht_3] at hB_3
  have hP : va_P (dC, dI) vwCl (modW b r1 r2 g (cd (rngb x 0 (-1)) true true)) H_3 := hB_3
  have hD : va_D A (modW b r1 r2 g (cd (rngb x 0 (-1)) true true)) := va_D_th hD
  obtain rfl : r_3 = 0 := hw_3.trans (by simp [b2i, (rng_n1 (x := x))])
  refine lv_if_eq (tgt := 29) hx hb dX13_key_17 (by decide) (fun c_4 => ?_) (fun c_4 => absurd (by decide) c_4)
  refine lv_iconst (v := 0) hx hb dX13_key_29 (by decide) ?_
  have hcd : (cd (rngb x 0 (-1)) true true) = (cd false true true) := by simp [cd, (rng_n1 (x := x))]
  have hP8 := hP.sub (ws' := [((b 0), .inr (15, [.int (cd (rngb x 0 (-1)) true true), .ref (b 1), .ref (b 2), .int 0, .ref (b 3), .ref (b 4), .ref (b 5), .null, .ref (b 6), .int 0, .int 0, .int 0, .int 0, .int 0]))]) [0] rfl
  rw [hcd] at hP8
  exact W.iret (v := 0) hx hb hr (fun t ht hW => ⟨⟨0, (), rfl, trivial, ⟨[.ref (b 1), .ref (b 2), .int 0, .ref (b 3), .ref (b 4), .ref (b 5), .null, .ref (b 6), .int 0, .int 0, .int 0, .int 0, .int 0], P_at ht hP8⟩⟩, hS.F ht⟩) hS.2.2 dX13_key_30
set_option maxHeartbeats 4000000 in
set_option maxRecDepth 100000 in
theorem c_X13_mark (l : Launch) (dC : Nat → ClassId) (dI : Nat → Nat → Nat) (g : Nat → ClassId) (b : Nat → Nat) (r1 : Nat → Nat) (r2 : Nat → Nat) (x : Int32) (th : Int32) (sz : Nat) : Met l yX13_mark wsX13_mark ({ frames := 1, cells := 0, slots := 0, locals := 23 }) (va_Pc [.ref (b 0), .int x] (PG (dC, dI) g (modW b r1 r2 g th) sz)) (va_Qi (fun (_ : Int32) (_ : Unit) => True) (fun (_ : Unit) t => ∃ fs : List Value, va_P (dC, dI) vwCl [(b 0, .inr (15, .int (cd false true true) :: fs))] t.heap) (va_A (modW b r1 r2 g th) sz)) 0 0 (va_A (modW b r1 r2 g th) sz) := by
  refine Met.ofW (cc := cX13_mark) (maxL := 2) (ret := (some .int)) (by decide) rfl ?_
  intro p e s m args below meth c s₁ B hml hv
  obtain ⟨rfl, hsz, hP, hK, hD0, hG⟩ := hv
  have hx := B.exec
  have hb := B.bytes
  have hr := B.returns
  have hts := atoms_spec (ws := wsX13_mark) B.pre
  have hown : s.vm.findClass RX13 = some m.cls := findClass_of_methodNamed B.named
  have hlocks := B.notSynchronized
  subst hsz
  have hD := hD0.self (sz := s.heap.size)
  generalize hAe : va_A (modW b r1 r2 g th) s.heap.size = A at hD hG ⊢
  have hA : ∀ q : Nat, s.heap.size ≤ q → A q := fun q h => by rw [← hAe]; exact Or.inr h
  have hS : va_S A s.heap s.heap [] := va_S.rf
  have hl := lv_entry ([.ref (b 0), .int x]) (n := 2) (Nat.le_of_ble_eq_true rfl)
  rw [lg_entry_eq]
  generalize (lg_sl ([.ref (b 0), .int x]) ++ List.replicate (2 - (lg_sl ([.ref (b 0), .int x])).length) Slot.unset).toArray = ls at hl ⊢
  have hl : lv_has ls 2 [(0, .ref (b 0)), (1, .int x)] := hl
  have hf41 := hts (Cond.fieldLink RX13 41 "RunmergeOfficeModel" "records" "I") (by decide +kernel)
  have hiX13 : ∀ w ∈ u_ws RX13 TX13 14, w ∈ wsX13_mark := by decide +kernel
  refine lv_aload_n hx hb dX13_mark_0 rfl (lv_at hl 0 rfl) ?_
  refine lv_iload_n hx hb dX13_mark_1 rfl (lv_at hl 1 rfl) ?_
  refine lv_iconst (v := 0) hx hb dX13_mark_2 (by decide) ?_
  refine lv_aload_n hx hb dX13_mark_3 rfl (lv_at hl 0 rfl) ?_
  refine va_get (D := (dC, dI)) (ci := 15) (v := .int 0) (C := RX13) (T := TX13) (N := 14) hx hb hts hiX13 hown hK hP 0 (m_0 b r1 r2 g th) rfl 3 (by decide) hf41 (fun _ h9 => h9) rfl dX13_mark_4 ?_
  refine lv_iconst (v := 1) hx hb dX13_mark_7 (by decide) ?_
  refine lv_isub hx hb dX13_mark_8 ?_
  refine lv_topi (fun x_1 ex_1 => ?_)
  obtain rfl : x_1 = (-1) := ex_1.trans (by decide)
  refine va_calli (va_runS (As := [.int x, .int 0, .int (-1)]) (rest := [.ref (b 0)]) ⟨hx, hb, hml, hown, hts⟩ (c_X13_in l dC dI g (modW b r1 r2 g th) x 0 (-1)   s.heap.size) (va_cwS 3 hts gX13_mark_X13_in rfl rfl rfl (by decide +kernel) ⟨Nat.le_of_ble_eq_true rfl, Nat.le_of_ble_eq_true rfl⟩) ⟨PG_blind, PG_call hK hG hS hP hD (A_all hD hA hS.1)⟩ rfl rfl hl.1 rfl (lv_room (Nat.le_of_ble_eq_true rfl)) dX13_mark_9 ⟨Nat.le_of_ble_eq_true rfl, Nat.le_of_ble_eq_true rfl⟩) hS (fun q _ h => (A_all hD hA hS.1) q h) (A_all hD hA hS.1) (fun r_2 u_2 t_2 H_2 L_2 ht_2 hvm_2 hw_2 hB_2 hz_2 hk_2 hS => ?_)
  replace hB_2 := (show va_P (dC, dI) vwCl (modW b r1 r2 g th) t_2.heap from hB_2)
  rw [ht_2] at hB_2
  have hP := hB_2
  obtain rfl : r_2 = b2i (rngb x 0 (-1)) := hw_2
  refine lv_iconst (v := 1) hx hb dX13_mark_12 (by decide) ?_
  refine lv_iconst (v := 1) hx hb dX13_mark_13 (by decide) ?_
  refine va_calli (va_runV (As := [.int (b2i (rngb x 0 (-1))), .int 1, .int 1]) (rest := []) ⟨hx, hb, hml, hown, hts⟩ (c_X13_passes l dC dI g b r1 r2 th (rngb x 0 (-1)) true true  H_2.size) (cwV 3 hts gX13_mark_X13_passes rfl rfl rfl (by decide +kernel) ⟨Nat.le_of_ble_eq_true rfl, Nat.le_of_ble_eq_true rfl⟩) ⟨PG_blind, va_recv hK hP (ci := 15) (q0 := 0) rfl (m_0 b r1 r2 g th), PG_call hK hG hS hP hD (A_all hD hA hS.1)⟩ rfl rfl hl.1 rfl (lv_room (Nat.le_of_ble_eq_true rfl)) dX13_mark_14 ⟨Nat.le_of_ble_eq_true rfl, Nat.le_of_ble_eq_true rfl⟩) hS (fun q _ h => (A_all hD hA hS.1) q h) (A_all hD hA hS.1) (fun r_3 u_3 t_3 H_3 L_3 ht_3 hvm_3 hw_3 hB_3 hz_3 hk_3 hS => ?_)
  rw [ht_3] at hB_3
  have hP : va_P (dC, dI) vwCl (modW b r1 r2 g (cd (rngb x 0 (-1)) true true)) H_3 := hB_3
  have hD : va_D A (modW b r1 r2 g (cd (rngb x 0 (-1)) true true)) := va_D_th hD
  obtain rfl : r_3 = 0 := hw_3.trans (by simp [b2i, (rng_n1 (x := x))])
  refine lv_if_eq (tgt := 29) hx hb dX13_mark_17 (by decide) (fun c_4 => ?_) (fun c_4 => absurd (by decide) c_4)
  refine lv_iconst (v := 0) hx hb dX13_mark_29 (by decide) ?_
  have hcd : (cd (rngb x 0 (-1)) true true) = (cd false true true) := by simp [cd, (rng_n1 (x := x))]
  have hP8 := hP.sub (ws' := [((b 0), .inr (15, [.int (cd (rngb x 0 (-1)) true true), .ref (b 1), .ref (b 2), .int 0, .ref (b 3), .ref (b 4), .ref (b 5), .null, .ref (b 6), .int 0, .int 0, .int 0, .int 0, .int 0]))]) [0] rfl
  rw [hcd] at hP8
  exact W.iret (v := 0) hx hb hr (fun t ht hW => ⟨⟨0, (), rfl, trivial, ⟨[.ref (b 1), .ref (b 2), .int 0, .ref (b 3), .ref (b 4), .ref (b 5), .null, .ref (b 6), .int 0, .int 0, .int 0, .int 0, .int 0], P_at ht hP8⟩⟩, hS.F ht⟩) hS.2.2 dX13_mark_30
set_option maxHeartbeats 4000000 in
set_option maxRecDepth 100000 in
theorem c_X13_work (l : Launch) (dC : Nat → ClassId) (dI : Nat → Nat → Nat) (g : Nat → ClassId) (b : Nat → Nat) (r1 : Nat → Nat) (r2 : Nat → Nat) (x : Int32) (th : Int32) (sz : Nat) : Met l yX13_work wsX13_work ({ frames := 1, cells := 0, slots := 0, locals := 23 }) (va_Pc [.ref (b 0), .int x] (PG (dC, dI) g (modW b r1 r2 g th) sz)) (va_Qi (fun (_ : Int32) (_ : Unit) => True) (fun (_ : Unit) t => ∃ fs : List Value, va_P (dC, dI) vwCl [(b 0, .inr (15, .int (cd (rngb x 1 200) false true) :: fs))] t.heap) (va_A (modW b r1 r2 g th) sz)) 0 0 (va_A (modW b r1 r2 g th) sz) := by
  refine Met.ofW (cc := cX13_work) (maxL := 3) (ret := (some .int)) (by decide) rfl ?_
  intro p e s m args below meth c s₁ B hml hv
  obtain ⟨rfl, hsz, hP, hK, hD0, hG⟩ := hv
  have hx := B.exec
  have hb := B.bytes
  have hr := B.returns
  have hts := atoms_spec (ws := wsX13_work) B.pre
  have hown : s.vm.findClass RX13 = some m.cls := findClass_of_methodNamed B.named
  have hlocks := B.notSynchronized
  subst hsz
  have hD := hD0.self (sz := s.heap.size)
  generalize hAe : va_A (modW b r1 r2 g th) s.heap.size = A at hD hG ⊢
  have hA : ∀ q : Nat, s.heap.size ≤ q → A q := fun q h => by rw [← hAe]; exact Or.inr h
  have hS : va_S A s.heap s.heap [] := va_S.rf
  have hl := lv_entry ([.ref (b 0), .int x]) (n := 3) (Nat.le_of_ble_eq_true rfl)
  rw [lg_entry_eq]
  generalize (lg_sl ([.ref (b 0), .int x]) ++ List.replicate (3 - (lg_sl ([.ref (b 0), .int x])).length) Slot.unset).toArray = ls at hl ⊢
  have hl : lv_has ls 3 [(0, .ref (b 0)), (1, .int x)] := hl
  have hf166 := hts (Cond.fieldLink RX13 166 "RunmergeOfficeModel" "job" "LRunmergeOfficeModel$Job;") (by decide +kernel)
  have hiX13 : ∀ w ∈ u_ws RX13 TX13 14, w ∈ wsX13_work := by decide +kernel
  refine lv_aload_n hx hb dX13_work_0 rfl (lv_at hl 0 rfl) ?_
  refine lv_iload_n hx hb dX13_work_1 rfl (lv_at hl 1 rfl) ?_
  refine lv_iconst (v := 1) hx hb dX13_work_2 (by decide) ?_
  refine lv_sipush (v := 200) hx hb dX13_work_3 (by decide) ?_
  refine va_calli (va_runS (As := [.int x, .int 1, .int 200]) (rest := [.ref (b 0)]) ⟨hx, hb, hml, hown, hts⟩ (c_X13_in l dC dI g (modW b r1 r2 g th) x 1 200   s.heap.size) (va_cwS 3 hts gX13_work_X13_in rfl rfl rfl (by decide +kernel) ⟨Nat.le_of_ble_eq_true rfl, Nat.le_of_ble_eq_true rfl⟩) ⟨PG_blind, PG_call hK hG hS hP hD (A_all hD hA hS.1)⟩ rfl rfl hl.1 rfl (lv_room (Nat.le_of_ble_eq_true rfl)) dX13_work_6 ⟨Nat.le_of_ble_eq_true rfl, Nat.le_of_ble_eq_true rfl⟩) hS (fun q _ h => (A_all hD hA hS.1) q h) (A_all hD hA hS.1) (fun r_1 u_1 t_1 H_1 L_1 ht_1 hvm_1 hw_1 hB_1 hz_1 hk_1 hS => ?_)
  replace hB_1 := (show va_P (dC, dI) vwCl (modW b r1 r2 g th) t_1.heap from hB_1)
  rw [ht_1] at hB_1
  have hP := hB_1
  obtain rfl : r_1 = b2i (rngb x 1 200) := hw_1
  refine lv_aload_n hx hb dX13_work_9 rfl (lv_at hl 0 rfl) ?_
  refine va_get (D := (dC, dI)) (ci := 15) (v := .null) (C := RX13) (T := TX13) (N := 14) hx hb hts hiX13 hown hK hP 0 (m_0 b r1 r2 g th) rfl 7 (by decide) hf166 (fun _ h9 => h9) rfl dX13_work_10 ?_
  refine lv_ifnullN (tgt := 30) hx hb dX13_work_13 (by decide) ?_
  refine lv_iconst (v := 0) hx hb dX13_work_30 (by decide) ?_
  refine lv_iconst (v := 1) hx hb dX13_work_31 (by decide) ?_
  refine va_calli (va_runV (As := [.int (b2i (rngb x 1 200)), .int 0, .int 1]) (rest := []) ⟨hx, hb, hml, hown, hts⟩ (c_X13_passes l dC dI g b r1 r2 th (rngb x 1 200) false true  H_1.size) (cwV 3 hts gX13_work_X13_passes rfl rfl rfl (by decide +kernel) ⟨Nat.le_of_ble_eq_true rfl, Nat.le_of_ble_eq_true rfl⟩) ⟨PG_blind, va_recv hK hP (ci := 15) (q0 := 0) rfl (m_0 b r1 r2 g th), PG_call hK hG hS hP hD (A_all hD hA hS.1)⟩ rfl rfl hl.1 rfl (lv_room (Nat.le_of_ble_eq_true rfl)) dX13_work_32 ⟨Nat.le_of_ble_eq_true rfl, Nat.le_of_ble_eq_true rfl⟩) hS (fun q _ h => (A_all hD hA hS.1) q h) (A_all hD hA hS.1) (fun r_2 u_2 t_2 H_2 L_2 ht_2 hvm_2 hw_2 hB_2 hz_2 hk_2 hS => ?_)
  rw [ht_2] at hB_2
  have hP : va_P (dC, dI) vwCl (modW b r1 r2 g (cd (rngb x 1 200) false true)) H_2 := hB_2
  have hD : va_D A (modW b r1 r2 g (cd (rngb x 1 200) false true)) := va_D_th hD
  obtain rfl : r_2 = 0 := hw_2.trans (by simp [b2i])
  refine lv_if_ne (tgt := 40) hx hb dX13_work_35 (by decide) (fun c_3 => absurd (by decide) c_3) (fun c_3 => ?_)
  refine lv_iconst (v := 0) hx hb dX13_work_38 (by decide) ?_
  have hcd : (cd (rngb x 1 200) false true) = (cd (rngb x 1 200) false true) := rfl
  have hP8 := hP.sub (ws' := [((b 0), .inr (15, [.int (cd (rngb x 1 200) false true), .ref (b 1), .ref (b 2), .int 0, .ref (b 3), .ref (b 4), .ref (b 5), .null, .ref (b 6), .int 0, .int 0, .int 0, .int 0, .int 0]))]) [0] rfl
  rw [hcd] at hP8
  exact W.iret (v := 0) hx hb hr (fun t ht hW => ⟨⟨0, (), rfl, trivial, ⟨[.ref (b 1), .ref (b 2), .int 0, .ref (b 3), .ref (b 4), .ref (b 5), .null, .ref (b 6), .int 0, .int 0, .int 0, .int 0, .int 0], P_at ht hP8⟩⟩, hS.F ht⟩) hS.2.2 dX13_work_39
set_option maxHeartbeats 4000000 in
set_option maxRecDepth 100000 in
theorem c_X13_tear (l : Launch) (dC : Nat → ClassId) (dI : Nat → Nat → Nat) (g : Nat → ClassId) (b : Nat → Nat) (r1 : Nat → Nat) (r2 : Nat → Nat) (th : Int32) (sz : Nat) : Met l yX13_tear wsX13_tear ({ frames := 1, cells := 0, slots := 0, locals := 23 }) (va_Pc [.ref (b 0)] (PG (dC, dI) g (modW b r1 r2 g th) sz)) (va_Qi (fun (_ : Int32) (_ : Unit) => True) (fun (_ : Unit) t => ∃ fs : List Value, va_P (dC, dI) vwCl [(b 0, .inr (15, .int (cd false true true) :: fs))] t.heap) (va_A (modW b r1 r2 g th) sz)) 0 0 (va_A (modW b r1 r2 g th) sz) := by
  refine Met.ofW (cc := cX13_tear) (maxL := 1) (ret := (some .int)) (by decide) rfl ?_
  intro p e s m args below meth c s₁ B hml hv
  obtain ⟨rfl, hsz, hP, hK, hD0, hG⟩ := hv
  have hx := B.exec
  have hb := B.bytes
  have hr := B.returns
  have hts := atoms_spec (ws := wsX13_tear) B.pre
  have hown : s.vm.findClass RX13 = some m.cls := findClass_of_methodNamed B.named
  have hlocks := B.notSynchronized
  subst hsz
  have hD := hD0.self (sz := s.heap.size)
  generalize hAe : va_A (modW b r1 r2 g th) s.heap.size = A at hD hG ⊢
  have hA : ∀ q : Nat, s.heap.size ≤ q → A q := fun q h => by rw [← hAe]; exact Or.inr h
  have hS : va_S A s.heap s.heap [] := va_S.rf
  have hl := lv_entry ([.ref (b 0)]) (n := 1) (Nat.le_of_ble_eq_true rfl)
  rw [lg_entry_eq]
  generalize (lg_sl ([.ref (b 0)]) ++ List.replicate (1 - (lg_sl ([.ref (b 0)])).length) Slot.unset).toArray = ls at hl ⊢
  have hl : lv_has ls 1 [(0, .ref (b 0))] := hl
  have hf166 := hts (Cond.fieldLink RX13 166 "RunmergeOfficeModel" "job" "LRunmergeOfficeModel$Job;") (by decide +kernel)
  have hiX13 : ∀ w ∈ u_ws RX13 TX13 14, w ∈ wsX13_tear := by decide +kernel
  refine lv_aload_n hx hb dX13_tear_0 rfl (lv_at hl 0 rfl) ?_
  refine lv_aload_n hx hb dX13_tear_1 rfl (lv_at hl 0 rfl) ?_
  refine va_get (D := (dC, dI)) (ci := 15) (v := .null) (C := RX13) (T := TX13) (N := 14) hx hb hts hiX13 hown hK hP 0 (m_0 b r1 r2 g th) rfl 7 (by decide) hf166 (fun _ h9 => h9) rfl dX13_tear_2 ?_
  refine lv_ifnullN (tgt := 22) hx hb dX13_tear_5 (by decide) ?_
  refine lv_iconst (v := 0) hx hb dX13_tear_22 (by decide) ?_
  refine lv_iconst (v := 1) hx hb dX13_tear_23 (by decide) ?_
  refine lv_iconst (v := 1) hx hb dX13_tear_24 (by decide) ?_
  refine va_calli (va_runV (As := [.int 0, .int 1, .int 1]) (rest := []) ⟨hx, hb, hml, hown, hts⟩ (c_X13_passes l dC dI g b r1 r2 th false true true  s.heap.size) (cwV 3 hts gX13_tear_X13_passes rfl rfl rfl (by decide +kernel) ⟨Nat.le_of_ble_eq_true rfl, Nat.le_of_ble_eq_true rfl⟩) ⟨PG_blind, va_recv hK hP (ci := 15) (q0 := 0) rfl (m_0 b r1 r2 g th), PG_call hK hG hS hP hD (A_all hD hA hS.1)⟩ rfl rfl hl.1 rfl (lv_room (Nat.le_of_ble_eq_true rfl)) dX13_tear_25 ⟨Nat.le_of_ble_eq_true rfl, Nat.le_of_ble_eq_true rfl⟩) hS (fun q _ h => (A_all hD hA hS.1) q h) (A_all hD hA hS.1) (fun r_1 u_1 t_1 H_1 L_1 ht_1 hvm_1 hw_1 hB_1 hz_1 hk_1 hS => ?_)
  rw [ht_1] at hB_1
  have hP : va_P (dC, dI) vwCl (modW b r1 r2 g (cd false true true)) H_1 := hB_1
  have hD : va_D A (modW b r1 r2 g (cd false true true)) := va_D_th hD
  obtain rfl : r_1 = 0 := hw_1.trans (by simp [b2i])
  refine lv_if_eq (tgt := 41) hx hb dX13_tear_28 (by decide) (fun c_2 => ?_) (fun c_2 => absurd (by decide) c_2)
  refine lv_iconst (v := 0) hx hb dX13_tear_41 (by decide) ?_
  have hcd : (cd false true true) = (cd false true true) := rfl
  have hP8 := hP.sub (ws' := [((b 0), .inr (15, [.int (cd false true true), .ref (b 1), .ref (b 2), .int 0, .ref (b 3), .ref (b 4), .ref (b 5), .null, .ref (b 6), .int 0, .int 0, .int 0, .int 0, .int 0]))]) [0] rfl
  rw [hcd] at hP8
  exact W.iret (v := 0) hx hb hr (fun t ht hW => ⟨⟨0, (), rfl, trivial, ⟨[.ref (b 1), .ref (b 2), .int 0, .ref (b 3), .ref (b 4), .ref (b 5), .null, .ref (b 6), .int 0, .int 0, .int 0, .int 0, .int 0], P_at ht hP8⟩⟩, hS.F ht⟩) hS.2.2 dX13_tear_42
set_option maxHeartbeats 4000000 in
set_option maxRecDepth 100000 in
theorem c_X13_job (l : Launch) (dC : Nat → ClassId) (dI : Nat → Nat → Nat) (g : Nat → ClassId) (b : Nat → Nat) (r1 : Nat → Nat) (r2 : Nat → Nat) (x : Int32) (th : Int32) (sz : Nat) : Met l yX13_job wsX13_job ({ frames := 1, cells := 0, slots := 0, locals := 23 }) (va_Pc [.ref (b 0), .int x] (PG (dC, dI) g (modW b r1 r2 g th) sz)) (va_Qi (fun (_ : Int32) (_ : Unit) => True) (fun (_ : Unit) t => ∃ fs : List Value, va_P (dC, dI) vwCl [(b 0, .inr (15, .int (cd (rngb x 0 7) false true) :: fs))] t.heap) (va_A (modW b r1 r2 g th) sz)) 0 0 (va_A (modW b r1 r2 g th) sz) := by
  refine Met.ofW (cc := cX13_job) (maxL := 3) (ret := (some .int)) (by decide) rfl ?_
  intro p e s m args below meth c s₁ B hml hv
  obtain ⟨rfl, hsz, hP, hK, hD0, hG⟩ := hv
  have hx := B.exec
  have hb := B.bytes
  have hr := B.returns
  have hts := atoms_spec (ws := wsX13_job) B.pre
  have hown : s.vm.findClass RX13 = some m.cls := findClass_of_methodNamed B.named
  have hlocks := B.notSynchronized
  subst hsz
  have hD := hD0.self (sz := s.heap.size)
  generalize hAe : va_A (modW b r1 r2 g th) s.heap.size = A at hD hG ⊢
  have hA : ∀ q : Nat, s.heap.size ≤ q → A q := fun q h => by rw [← hAe]; exact Or.inr h
  have hS : va_S A s.heap s.heap [] := va_S.rf
  have hl := lv_entry ([.ref (b 0), .int x]) (n := 3) (Nat.le_of_ble_eq_true rfl)
  rw [lg_entry_eq]
  generalize (lg_sl ([.ref (b 0), .int x]) ++ List.replicate (3 - (lg_sl ([.ref (b 0), .int x])).length) Slot.unset).toArray = ls at hl ⊢
  have hl : lv_has ls 3 [(0, .ref (b 0)), (1, .int x)] := hl
  have hf166 := hts (Cond.fieldLink RX13 166 "RunmergeOfficeModel" "job" "LRunmergeOfficeModel$Job;") (by decide +kernel)
  have hiX13 : ∀ w ∈ u_ws RX13 TX13 14, w ∈ wsX13_job := by decide +kernel
  refine lv_aload_n hx hb dX13_job_0 rfl (lv_at hl 0 rfl) ?_
  refine lv_iload_n hx hb dX13_job_1 rfl (lv_at hl 1 rfl) ?_
  refine lv_iconst (v := 0) hx hb dX13_job_2 (by decide) ?_
  refine lv_bipush (v := 7) hx hb dX13_job_3 (by decide) ?_
  refine va_calli (va_runS (As := [.int x, .int 0, .int 7]) (rest := [.ref (b 0)]) ⟨hx, hb, hml, hown, hts⟩ (c_X13_in l dC dI g (modW b r1 r2 g th) x 0 7   s.heap.size) (va_cwS 3 hts gX13_job_X13_in rfl rfl rfl (by decide +kernel) ⟨Nat.le_of_ble_eq_true rfl, Nat.le_of_ble_eq_true rfl⟩) ⟨PG_blind, PG_call hK hG hS hP hD (A_all hD hA hS.1)⟩ rfl rfl hl.1 rfl (lv_room (Nat.le_of_ble_eq_true rfl)) dX13_job_5 ⟨Nat.le_of_ble_eq_true rfl, Nat.le_of_ble_eq_true rfl⟩) hS (fun q _ h => (A_all hD hA hS.1) q h) (A_all hD hA hS.1) (fun r_1 u_1 t_1 H_1 L_1 ht_1 hvm_1 hw_1 hB_1 hz_1 hk_1 hS => ?_)
  replace hB_1 := (show va_P (dC, dI) vwCl (modW b r1 r2 g th) t_1.heap from hB_1)
  rw [ht_1] at hB_1
  have hP := hB_1
  obtain rfl : r_1 = b2i (rngb x 0 7) := hw_1
  refine lv_aload_n hx hb dX13_job_8 rfl (lv_at hl 0 rfl) ?_
  refine va_get (D := (dC, dI)) (ci := 15) (v := .null) (C := RX13) (T := TX13) (N := 14) hx hb hts hiX13 hown hK hP 0 (m_0 b r1 r2 g th) rfl 7 (by decide) hf166 (fun _ h9 => h9) rfl dX13_job_9 ?_
  refine lv_ifnullN (tgt := 19) hx hb dX13_job_12 (by decide) ?_
  refine lv_iconst (v := 0) hx hb dX13_job_19 (by decide) ?_
  refine lv_iconst (v := 1) hx hb dX13_job_20 (by decide) ?_
  refine va_calli (va_runV (As := [.int (b2i (rngb x 0 7)), .int 0, .int 1]) (rest := []) ⟨hx, hb, hml, hown, hts⟩ (c_X13_passes l dC dI g b r1 r2 th (rngb x 0 7) false true  H_1.size) (cwV 3 hts gX13_job_X13_passes rfl rfl rfl (by decide +kernel) ⟨Nat.le_of_ble_eq_true rfl, Nat.le_of_ble_eq_true rfl⟩) ⟨PG_blind, va_recv hK hP (ci := 15) (q0 := 0) rfl (m_0 b r1 r2 g th), PG_call hK hG hS hP hD (A_all hD hA hS.1)⟩ rfl rfl hl.1 rfl (lv_room (Nat.le_of_ble_eq_true rfl)) dX13_job_21 ⟨Nat.le_of_ble_eq_true rfl, Nat.le_of_ble_eq_true rfl⟩) hS (fun q _ h => (A_all hD hA hS.1) q h) (A_all hD hA hS.1) (fun r_2 u_2 t_2 H_2 L_2 ht_2 hvm_2 hw_2 hB_2 hz_2 hk_2 hS => ?_)
  rw [ht_2] at hB_2
  have hP : va_P (dC, dI) vwCl (modW b r1 r2 g (cd (rngb x 0 7) false true)) H_2 := hB_2
  have hD : va_D A (modW b r1 r2 g (cd (rngb x 0 7) false true)) := va_D_th hD
  obtain rfl : r_2 = 0 := hw_2.trans (by simp [b2i])
  refine lv_if_ne (tgt := 29) hx hb dX13_job_24 (by decide) (fun c_3 => absurd (by decide) c_3) (fun c_3 => ?_)
  refine lv_iconst (v := 0) hx hb dX13_job_27 (by decide) ?_
  have hcd : (cd (rngb x 0 7) false true) = (cd (rngb x 0 7) false true) := rfl
  have hP8 := hP.sub (ws' := [((b 0), .inr (15, [.int (cd (rngb x 0 7) false true), .ref (b 1), .ref (b 2), .int 0, .ref (b 3), .ref (b 4), .ref (b 5), .null, .ref (b 6), .int 0, .int 0, .int 0, .int 0, .int 0]))]) [0] rfl
  rw [hcd] at hP8
  exact W.iret (v := 0) hx hb hr (fun t ht hW => ⟨⟨0, (), rfl, trivial, ⟨[.ref (b 1), .ref (b 2), .int 0, .ref (b 3), .ref (b 4), .ref (b 5), .null, .ref (b 6), .int 0, .int 0, .int 0, .int 0, .int 0], P_at ht hP8⟩⟩, hS.F ht⟩) hS.2.2 dX13_job_28
