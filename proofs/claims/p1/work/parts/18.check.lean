theorem dX1_countRecords_0 : decode cX1_countRecords 0 = .ok (.iconst 0, 1) := by decide +kernel
theorem dX1_countRecords_1 : decode cX1_countRecords 1 = .ok (.istore_n 3, 1) := by decide +kernel
theorem dX1_countRecords_2 : decode cX1_countRecords 2 = .ok (.iload_n 3, 1) := by decide +kernel
theorem dX1_countRecords_3 : decode cX1_countRecords 3 = .ok (.aload_n 1, 1) := by decide +kernel
theorem dX1_countRecords_4 : decode cX1_countRecords 4 = .ok (.getfield 126, 3) := by decide +kernel
theorem dX1_countRecords_7 : decode cX1_countRecords 7 = .ok (.if_icmp .ge 40, 3) := by decide +kernel
theorem dX1_countRecords_47 : decode cX1_countRecords 47 = .ok (.return_, 1) := by decide +kernel
theorem dX1_demand_0 : decode cX1_demand 0 = .ok (.aload_n 0, 1) := by decide +kernel
theorem dX1_demand_1 : decode cX1_demand 1 = .ok (.dup, 1) := by decide +kernel
theorem dX1_demand_2 : decode cX1_demand 2 = .ok (.getfield 57, 3) := by decide +kernel
theorem dX1_demand_5 : decode cX1_demand 5 = .ok (.iload_n 1, 1) := by decide +kernel
theorem dX1_demand_6 : decode cX1_demand 6 = .ok (.ifCond .eq 7, 3) := by decide +kernel
theorem dX1_demand_9 : decode cX1_demand 9 = .ok (.iconst 0, 1) := by decide +kernel
theorem dX1_demand_10 : decode cX1_demand 10 = .ok (.goto 4, 3) := by decide +kernel
theorem dX1_demand_14 : decode cX1_demand 14 = .ok (.iadd, 1) := by decide +kernel
theorem dX1_demand_15 : decode cX1_demand 15 = .ok (.putfield 57, 3) := by decide +kernel
theorem dX1_demand_18 : decode cX1_demand 18 = .ok (.return_, 1) := by decide +kernel
theorem dX1_passesNeeded_0 : decode cX1_passesNeeded 0 = .ok (.iconst 0, 1) := by decide +kernel
theorem dX1_passesNeeded_1 : decode cX1_passesNeeded 1 = .ok (.istore_n 1, 1) := by decide +kernel
theorem dX1_passesNeeded_2 : decode cX1_passesNeeded 2 = .ok (.iconst 1, 1) := by decide +kernel
theorem dX1_passesNeeded_3 : decode cX1_passesNeeded 3 = .ok (.istore_n 2, 1) := by decide +kernel
theorem dX1_passesNeeded_4 : decode cX1_passesNeeded 4 = .ok (.iload_n 2, 1) := by decide +kernel
theorem dX1_passesNeeded_5 : decode cX1_passesNeeded 5 = .ok (.aload_n 0, 1) := by decide +kernel
theorem dX1_passesNeeded_6 : decode cX1_passesNeeded 6 = .ok (.getfield 42, 3) := by decide +kernel
theorem dX1_passesNeeded_9 : decode cX1_passesNeeded 9 = .ok (.getfield 82, 3) := by decide +kernel
theorem dX1_passesNeeded_12 : decode cX1_passesNeeded 12 = .ok (.if_icmp .ge 26, 3) := by decide +kernel
theorem dX1_passesNeeded_38 : decode cX1_passesNeeded 38 = .ok (.iload_n 1, 1) := by decide +kernel
theorem dX1_passesNeeded_39 : decode cX1_passesNeeded 39 = .ok (.ireturn, 1) := by decide +kernel
theorem dX1_checkReplacement_0 : decode cX1_checkReplacement 0 = .ok (.iconst 0, 1) := by decide +kernel
theorem dX1_checkReplacement_1 : decode cX1_checkReplacement 1 = .ok (.istore_n 3, 1) := by decide +kernel
theorem dX1_checkReplacement_2 : decode cX1_checkReplacement 2 = .ok (.iload_n 3, 1) := by decide +kernel
theorem dX1_checkReplacement_3 : decode cX1_checkReplacement 3 = .ok (.iconst 1, 1) := by decide +kernel
theorem dX1_checkReplacement_4 : decode cX1_checkReplacement 4 = .ok (.iadd, 1) := by decide +kernel
theorem dX1_checkReplacement_5 : decode cX1_checkReplacement 5 = .ok (.aload_n 0, 1) := by decide +kernel
theorem dX1_checkReplacement_6 : decode cX1_checkReplacement 6 = .ok (.getfield 42, 3) := by decide +kernel
theorem dX1_checkReplacement_9 : decode cX1_checkReplacement 9 = .ok (.getfield 82, 3) := by decide +kernel
theorem dX1_checkReplacement_12 : decode cX1_checkReplacement 12 = .ok (.if_icmp .ge 36, 3) := by decide +kernel
theorem dX1_checkReplacement_48 : decode cX1_checkReplacement 48 = .ok (.aload_n 0, 1) := by decide +kernel
theorem dX1_checkReplacement_49 : decode cX1_checkReplacement 49 = .ok (.aload_n 0, 1) := by decide +kernel
theorem dX1_checkReplacement_50 : decode cX1_checkReplacement 50 = .ok (.getfield 42, 3) := by decide +kernel
theorem dX1_checkReplacement_53 : decode cX1_checkReplacement 53 = .ok (.getfield 82, 3) := by decide +kernel
theorem dX1_checkReplacement_56 : decode cX1_checkReplacement 56 = .ok (.iconst 1, 1) := by decide +kernel
theorem dX1_checkReplacement_57 : decode cX1_checkReplacement 57 = .ok (.if_icmp .le 18, 3) := by decide +kernel
theorem dX1_checkReplacement_75 : decode cX1_checkReplacement 75 = .ok (.iconst 1, 1) := by decide +kernel
theorem dX1_checkReplacement_76 : decode cX1_checkReplacement 76 = .ok (.goto 4, 3) := by decide +kernel
set_option maxRecDepth 20000 in
theorem ggX1_checkReplacement_X1_demand : GoodIn wsX1_checkReplacement wsX1_demand := goodIn_r _ [14, 15, 33, 34, 35, 36, 37, 38, 39, 40] (by decide +kernel) (by decide +kernel)
set_option maxRecDepth 20000 in
theorem gX1_checkReplacement_X1_demand : GoodIn wsX1_checkReplacement (wsV RX1 92 RX1 yX1_demand wsX1_demand) := goodIn_app (goodIn_of _ (by decide +kernel)) ggX1_checkReplacement_X1_demand
theorem dX1_checkReplacement_80 : decode cX1_checkReplacement 80 = .ok (.invokevirtual 92, 3) := by decide +kernel
theorem dX1_checkReplacement_83 : decode cX1_checkReplacement 83 = .ok (.return_, 1) := by decide +kernel
theorem dX8_takeOver_0 : decode cX8_takeOver 0 = .ok (.aload_n 0, 1) := by decide +kernel
theorem dX8_takeOver_1 : decode cX8_takeOver 1 = .ok (.aload_n 1, 1) := by decide +kernel
theorem dX8_takeOver_2 : decode cX8_takeOver 2 = .ok (.getfield 9, 3) := by decide +kernel
theorem dX8_takeOver_5 : decode cX8_takeOver 5 = .ok (.putfield 9, 3) := by decide +kernel
theorem dX8_takeOver_8 : decode cX8_takeOver 8 = .ok (.aload_n 0, 1) := by decide +kernel
theorem dX8_takeOver_9 : decode cX8_takeOver 9 = .ok (.aload_n 1, 1) := by decide +kernel
theorem dX8_takeOver_10 : decode cX8_takeOver 10 = .ok (.getfield 15, 3) := by decide +kernel
theorem dX8_takeOver_13 : decode cX8_takeOver 13 = .ok (.putfield 15, 3) := by decide +kernel
theorem dX8_takeOver_16 : decode cX8_takeOver 16 = .ok (.aload_n 0, 1) := by decide +kernel
theorem dX8_takeOver_17 : decode cX8_takeOver 17 = .ok (.aload_n 1, 1) := by decide +kernel
theorem dX8_takeOver_18 : decode cX8_takeOver 18 = .ok (.getfield 18, 3) := by decide +kernel
theorem dX8_takeOver_21 : decode cX8_takeOver 21 = .ok (.putfield 18, 3) := by decide +kernel
theorem dX8_takeOver_24 : decode cX8_takeOver 24 = .ok (.aload_n 0, 1) := by decide +kernel
theorem dX8_takeOver_25 : decode cX8_takeOver 25 = .ok (.aload_n 1, 1) := by decide +kernel
theorem dX8_takeOver_26 : decode cX8_takeOver 26 = .ok (.getfield 21, 3) := by decide +kernel
theorem dX8_takeOver_29 : decode cX8_takeOver 29 = .ok (.putfield 21, 3) := by decide +kernel
theorem dX8_takeOver_32 : decode cX8_takeOver 32 = .ok (.aload_n 0, 1) := by decide +kernel
theorem dX8_takeOver_33 : decode cX8_takeOver 33 = .ok (.aload_n 1, 1) := by decide +kernel
theorem dX8_takeOver_34 : decode cX8_takeOver 34 = .ok (.getfield 24, 3) := by decide +kernel
theorem dX8_takeOver_37 : decode cX8_takeOver 37 = .ok (.putfield 24, 3) := by decide +kernel
theorem dX8_takeOver_40 : decode cX8_takeOver 40 = .ok (.return_, 1) := by decide +kernel
theorem dX1_hasSameRecords_0 : decode cX1_hasSameRecords 0 = .ok (.iconst 0, 1) := by decide +kernel
theorem dX1_hasSameRecords_1 : decode cX1_hasSameRecords 1 = .ok (.istore_n 2, 1) := by decide +kernel
theorem dX1_hasSameRecords_2 : decode cX1_hasSameRecords 2 = .ok (.iload_n 2, 1) := by decide +kernel
theorem dX1_hasSameRecords_3 : decode cX1_hasSameRecords 3 = .ok (.sipush 200, 3) := by decide +kernel
theorem dX1_hasSameRecords_6 : decode cX1_hasSameRecords 6 = .ok (.if_icmp .ge 16, 3) := by decide +kernel
theorem dX1_hasSameRecords_22 : decode cX1_hasSameRecords 22 = .ok (.aload_n 0, 1) := by decide +kernel
theorem dX1_hasSameRecords_23 : decode cX1_hasSameRecords 23 = .ok (.aload_n 1, 1) := by decide +kernel
theorem dX1_hasSameRecords_24 : decode cX1_hasSameRecords 24 = .ok (.iconst 1, 1) := by decide +kernel
set_option maxRecDepth 20000 in
theorem ggX1_hasSameRecords_X1_countRecords : GoodIn wsX1_hasSameRecords wsX1_countRecords := goodIn_r _ [7, 1, 8, 9, 10, 11, 12, 13, 14, 23, 24, 15, 16, 17, 18, 19, 20, 21, 22] (by decide +kernel) (by decide +kernel)
set_option maxRecDepth 20000 in
theorem gX1_hasSameRecords_X1_countRecords : GoodIn wsX1_hasSameRecords (wsV RX1 138 RX1 yX1_countRecords wsX1_countRecords) := goodIn_app (goodIn_of _ (by decide +kernel)) ggX1_hasSameRecords_X1_countRecords
theorem dX1_hasSameRecords_25 : decode cX1_hasSameRecords 25 = .ok (.invokevirtual 138, 3) := by decide +kernel
theorem dX1_hasSameRecords_28 : decode cX1_hasSameRecords 28 = .ok (.aload_n 0, 1) := by decide +kernel
theorem dX1_hasSameRecords_29 : decode cX1_hasSameRecords 29 = .ok (.aload_n 0, 1) := by decide +kernel
theorem dX1_hasSameRecords_30 : decode cX1_hasSameRecords 30 = .ok (.getfield 49, 3) := by decide +kernel
theorem dX1_hasSameRecords_33 : decode cX1_hasSameRecords 33 = .ok (.iconst (-1), 1) := by decide +kernel
theorem dX1_hasSameRecords_34 : decode cX1_hasSameRecords 34 = .ok (.invokevirtual 138, 3) := by decide +kernel
theorem dX1_hasSameRecords_37 : decode cX1_hasSameRecords 37 = .ok (.iconst 0, 1) := by decide +kernel
theorem dX1_hasSameRecords_38 : decode cX1_hasSameRecords 38 = .ok (.istore_n 2, 1) := by decide +kernel
theorem dX1_hasSameRecords_39 : decode cX1_hasSameRecords 39 = .ok (.iload_n 2, 1) := by decide +kernel
theorem dX1_hasSameRecords_40 : decode cX1_hasSameRecords 40 = .ok (.sipush 200, 3) := by decide +kernel
theorem dX1_hasSameRecords_43 : decode cX1_hasSameRecords 43 = .ok (.if_icmp .ge 20, 3) := by decide +kernel
theorem dX1_hasSameRecords_63 : decode cX1_hasSameRecords 63 = .ok (.iconst 1, 1) := by decide +kernel
theorem dX1_hasSameRecords_64 : decode cX1_hasSameRecords 64 = .ok (.ireturn, 1) := by decide +kernel
theorem dX1_hasSameRecords_46 : decode cX1_hasSameRecords 46 = .ok (.aload_n 0, 1) := by decide +kernel
theorem dX1_hasSameRecords_47 : decode cX1_hasSameRecords 47 = .ok (.getfield 53, 3) := by decide +kernel
theorem dX1_hasSameRecords_50 : decode cX1_hasSameRecords 50 = .ok (.iload_n 2, 1) := by decide +kernel
theorem dX1_hasSameRecords_51 : decode cX1_hasSameRecords 51 = .ok (.iaload, 1) := by decide +kernel
theorem dX1_hasSameRecords_52 : decode cX1_hasSameRecords 52 = .ok (.ifCond .eq 5, 3) := by decide +kernel
theorem dX1_hasSameRecords_57 : decode cX1_hasSameRecords 57 = .ok (.iinc 2 1, 3) := by decide +kernel
theorem dX1_hasSameRecords_60 : decode cX1_hasSameRecords 60 = .ok (.goto (-21), 3) := by decide +kernel
theorem dX1_hasSameRecords_9 : decode cX1_hasSameRecords 9 = .ok (.aload_n 0, 1) := by decide +kernel
theorem dX1_hasSameRecords_10 : decode cX1_hasSameRecords 10 = .ok (.getfield 53, 3) := by decide +kernel
theorem dX1_hasSameRecords_13 : decode cX1_hasSameRecords 13 = .ok (.iload_n 2, 1) := by decide +kernel
theorem dX1_hasSameRecords_14 : decode cX1_hasSameRecords 14 = .ok (.iconst 0, 1) := by decide +kernel
theorem dX1_hasSameRecords_15 : decode cX1_hasSameRecords 15 = .ok (.iastore, 1) := by decide +kernel
theorem dX1_hasSameRecords_16 : decode cX1_hasSameRecords 16 = .ok (.iinc 2 1, 3) := by decide +kernel
theorem dX1_hasSameRecords_19 : decode cX1_hasSameRecords 19 = .ok (.goto (-17), 3) := by decide +kernel
theorem upd_zz (v : Int32) (i : Nat) : upd (fun _ => v) i v = (fun _ => v) := by
  funext j
  simp [upd]
set_option maxHeartbeats 4000000 in
set_option maxRecDepth 100000 in
theorem c_X1_countRecords (l : Launch) (dC : Nat → ClassId) (dI : Nat → Nat → Nat) (g : Nat → ClassId) (Wd : va_W) (t : Nat) (tp : Nat) (h : Nat) (wt : Int32) (k0 : Nat) (w0 : Wd[k0]? = some (tp, .inr (11, [.ref h, .int 0]))) (sz : Nat) : Met l yX1_countRecords wsX1_countRecords ({ frames := 0, cells := 0, slots := 0, locals := 0 }) (va_Pc [.ref t, .ref tp, .int wt] (PG (dC, dI) g Wd sz)) (va_Qv (fun (_ : Unit) => True) (fun (_ : Unit) t => va_P (dC, dI) vwCl Wd t.heap) (va_A Wd sz)) 0 0 (va_A Wd sz) := by
  refine Met.ofW (cc := cX1_countRecords) (maxL := 5) (ret := none) (by decide) rfl ?_
  intro p e s m args below meth c s₁ B hml hv
  obtain ⟨rfl, hsz, hP, hK, hD0, hG⟩ := hv
  have hx := B.exec
  have hb := B.bytes
  have hr := B.returns
  have hts := atoms_spec (ws := wsX1_countRecords) B.pre
  have hown : s.vm.findClass RX1 = some m.cls := findClass_of_methodNamed B.named
  have hlocks := B.notSynchronized
  subst hsz
  have hD := hD0.self (sz := s.heap.size)
  generalize hAe : va_A Wd s.heap.size = A at hD hG ⊢
  have hA : ∀ q : Nat, s.heap.size ≤ q → A q := fun q h => by rw [← hAe]; exact Or.inr h
  have hS : va_S A s.heap s.heap [] := va_S.rf
  have hl := lv_entry ([.ref t, .ref tp, .int wt]) (n := 5) (Nat.le_of_ble_eq_true rfl)
  rw [lg_entry_eq]
  generalize (lg_sl ([.ref t, .ref tp, .int wt]) ++ List.replicate (5 - (lg_sl ([.ref t, .ref tp, .int wt])).length) Slot.unset).toArray = ls at hl ⊢
  have hl : lv_has ls 5 [(0, .ref t), (1, .ref tp), (2, .int wt)] := hl
  have hiX9 : ∀ w ∈ u_ws RX9 TX9 2, w ∈ wsX1_countRecords := by decide +kernel
  refine lv_iconst (v := 0) hx hb dX1_countRecords_0 (by decide) ?_
  refine lv_istore_n (lv' := [(3, .int 0), (0, .ref t), (1, .ref tp), (2, .int wt)]) hx hb dX1_countRecords_1 rfl hl (by decide) rfl (fun ls hl => ?_)
  refine lv_iload_n hx hb dX1_countRecords_2 rfl (lv_at hl 0 rfl) ?_
  refine lv_aload_n hx hb dX1_countRecords_3 rfl (lv_at hl 2 rfl) ?_
  refine va_getN (D := (dC, dI)) (ci := 11) (v := .int 0) (C := RX9) (T := TX9) (N := 2) hx hb hts hiX9 hown hK hP k0 w0 rfl 1 (by decide) (nf_4 hG) (fun _ h9 => h9) rfl dX1_countRecords_4 ?_
  refine lv_icmp_ge (tgt := 47) hx hb dX1_countRecords_7 (by decide) (fun c_1 => ?_) (fun c_1 => absurd (by decide) c_1)
  exact W.vret hx hb hr (fun t ht hW => ⟨⟨(), rfl, trivial, P_at ht hP⟩, hS.F ht⟩) hS.2.2 dX1_countRecords_47
set_option maxHeartbeats 4000000 in
set_option maxRecDepth 100000 in
theorem c_X1_demand (l : Launch) (dC : Nat → ClassId) (dI : Nat → Nat → Nat) (g : Nat → ClassId) (Wd : va_W) (t : Nat) (mk : Nat) (tr : Nat) (pl : Nat) (wi : Nat) (rr : Nat) (ou : Nat) (tm : Nat) (k0 : Nat) (w0 : Wd[k0]? = some (t, .inr (3, [.ref mk, .ref tr, .ref pl, .ref wi, .ref rr, .ref ou, .ref tm, .int 0]))) (sz : Nat) : Met l yX1_demand wsX1_demand ({ frames := 0, cells := 0, slots := 0, locals := 0 }) (va_Pc [.ref t, .int 1] (PG (dC, dI) g Wd sz)) (va_Qv (fun (_ : Unit) => True) (fun (_ : Unit) t => va_P (dC, dI) vwCl Wd t.heap) (va_A Wd sz)) 0 0 (va_A Wd sz) := by
  refine Met.ofW (cc := cX1_demand) (maxL := 2) (ret := none) (by decide) rfl ?_
  intro p e s m args below meth c s₁ B hml hv
  obtain ⟨rfl, hsz, hP, hK, hD0, hG⟩ := hv
  have hx := B.exec
  have hb := B.bytes
  have hr := B.returns
  have hts := atoms_spec (ws := wsX1_demand) B.pre
  have hown : s.vm.findClass RX1 = some m.cls := findClass_of_methodNamed B.named
  have hlocks := B.notSynchronized
  subst hsz
  have hD := hD0.self (sz := s.heap.size)
  generalize hAe : va_A Wd s.heap.size = A at hD hG ⊢
  have hA : ∀ q : Nat, s.heap.size ≤ q → A q := fun q h => by rw [← hAe]; exact Or.inr h
  have hS : va_S A s.heap s.heap [] := va_S.rf
  have hl := lv_entry ([.ref t, .int 1]) (n := 2) (Nat.le_of_ble_eq_true rfl)
  rw [lg_entry_eq]
  generalize (lg_sl ([.ref t, .int 1]) ++ List.replicate (2 - (lg_sl ([.ref t, .int 1])).length) Slot.unset).toArray = ls at hl ⊢
  have hl : lv_has ls 2 [(0, .ref t), (1, .int 1)] := hl
  have hf57 := hts (Cond.fieldLink RX1 57 "RunmergeOffice$Checker" "failures" "I") (by decide +kernel)
  have hiX1 : ∀ w ∈ u_ws RX1 TX1 8, w ∈ wsX1_demand := by decide +kernel
  refine lv_aload_n hx hb dX1_demand_0 rfl (lv_at hl 0 rfl) ?_
  refine lv_dup hx hb dX1_demand_1 rfl ?_
  refine va_get (D := (dC, dI)) (ci := 3) (v := .int 0) (C := RX1) (T := TX1) (N := 8) hx hb hts hiX1 hown hK hP k0 w0 rfl 7 (by decide) hf57 (fun _ h9 => h9) rfl dX1_demand_2 ?_
  refine lv_iload_n hx hb dX1_demand_5 rfl (lv_at hl 1 rfl) ?_
  refine lv_if_eq (tgt := 13) hx hb dX1_demand_6 (by decide) (fun c_1 => absurd c_1 (by decide)) (fun c_1 => ?_)
  refine lv_iconst (v := 0) hx hb dX1_demand_9 (by decide) ?_
  refine lv_goto (tgt := 14) hx hb dX1_demand_10 (by decide) ?_
  refine lv_iadd hx hb dX1_demand_14 ?_
  refine lv_topi (fun x_2 ex_2 => ?_)
  obtain rfl : x_2 = 0 := ex_2.trans (by decide)
  refine va_putS (D := (dC, dI)) (ci := 3) (v := .int 0) (ty := .int) (C := RX1) (T := TX1) (N := 8) hx hb hts hiX1 tyX1 tyX1_ok nmX1 hown hK hP hD hS k0 w0 rfl 7 (by decide) hf57 (fun _ h9 => h9) rfl (by decide +kernel) rfl rfl (Nat.le_of_ble_eq_true rfl) rfl dX1_demand_15 (fun H_3 L_4 hP hS => ?_)
  exact W.vret hx hb hr (fun t ht hW => ⟨⟨(), rfl, trivial, P_at ht hP⟩, hS.F ht⟩) hS.2.2 dX1_demand_18
set_option maxHeartbeats 4000000 in
set_option maxRecDepth 100000 in
theorem c_X1_passesNeeded (l : Launch) (dC : Nat → ClassId) (dI : Nat → Nat → Nat) (g : Nat → ClassId) (Wd : va_W) (t : Nat) (mk : Nat) (tr : Nat) (pl : Nat) (wi : Nat) (rr : Nat) (ou : Nat) (tm : Nat) (ra : Nat) (rb : Nat) (rc : Nat) (k0 : Nat) (w0 : Wd[k0]? = some (t, .inr (3, [.ref mk, .ref tr, .ref pl, .ref wi, .ref rr, .ref ou, .ref tm, .int 0]))) (k1 : Nat) (w1 : Wd[k1]? = some (rr, .inr (9, [.ref ra, .ref rb, .ref rc, .int 0, .int 0]))) (sz : Nat) : Met l yX1_passesNeeded wsX1_passesNeeded ({ frames := 0, cells := 0, slots := 0, locals := 0 }) (va_Pc [.ref t] (PG (dC, dI) g Wd sz)) (va_Qi (fun (r : Int32) (_ : Unit) => r = 0) (fun (_ : Unit) t => va_P (dC, dI) vwCl Wd t.heap) (va_A Wd sz)) 0 0 (va_A Wd sz) := by
  refine Met.ofW (cc := cX1_passesNeeded) (maxL := 3) (ret := (some .int)) (by decide) rfl ?_
  intro p e s m args below meth c s₁ B hml hv
  obtain ⟨rfl, hsz, hP, hK, hD0, hG⟩ := hv
  have hx := B.exec
  have hb := B.bytes
  have hr := B.returns
  have hts := atoms_spec (ws := wsX1_passesNeeded) B.pre
  have hown : s.vm.findClass RX1 = some m.cls := findClass_of_methodNamed B.named
  have hlocks := B.notSynchronized
  subst hsz
  have hD := hD0.self (sz := s.heap.size)
  generalize hAe : va_A Wd s.heap.size = A at hD hG ⊢
  have hA : ∀ q : Nat, s.heap.size ≤ q → A q := fun q h => by rw [← hAe]; exact Or.inr h
  have hS : va_S A s.heap s.heap [] := va_S.rf
  have hl := lv_entry ([.ref t]) (n := 3) (Nat.le_of_ble_eq_true rfl)
  rw [lg_entry_eq]
  generalize (lg_sl ([.ref t]) ++ List.replicate (3 - (lg_sl ([.ref t])).length) Slot.unset).toArray = ls at hl ⊢
  have hl : lv_has ls 3 [(0, .ref t)] := hl
  have hf42 := hts (Cond.fieldLink RX1 42 "RunmergeOffice$Checker" "runRow" "LRunmergeOffice$RunRow;") (by decide +kernel)
  have hiX1 : ∀ w ∈ u_ws RX1 TX1 8, w ∈ wsX1_passesNeeded := by decide +kernel
  have hiX7 : ∀ w ∈ u_ws RX7 TX7 5, w ∈ wsX1_passesNeeded := by decide +kernel
  refine lv_iconst (v := 0) hx hb dX1_passesNeeded_0 (by decide) ?_
  refine lv_istore_n (lv' := [(1, .int 0), (0, .ref t)]) hx hb dX1_passesNeeded_1 rfl hl (by decide) rfl (fun ls hl => ?_)
  refine lv_iconst (v := 1) hx hb dX1_passesNeeded_2 (by decide) ?_
  refine lv_istore_n (lv' := [(2, .int 1), (1, .int 0), (0, .ref t)]) hx hb dX1_passesNeeded_3 rfl hl (by decide) rfl (fun ls hl => ?_)
  refine lv_iload_n hx hb dX1_passesNeeded_4 rfl (lv_at hl 0 rfl) ?_
  refine lv_aload_n hx hb dX1_passesNeeded_5 rfl (lv_at hl 2 rfl) ?_
  refine va_get (D := (dC, dI)) (ci := 3) (v := .ref rr) (C := RX1) (T := TX1) (N := 8) hx hb hts hiX1 hown hK hP k0 w0 rfl 4 (by decide) hf42 (fun _ h9 => h9) rfl dX1_passesNeeded_6 ?_
  refine va_getN (D := (dC, dI)) (ci := 9) (v := .int 0) (C := RX7) (T := TX7) (N := 5) hx hb hts hiX7 hown hK hP k1 w1 rfl 3 (by decide) (nf_28 hG) (fun _ h9 => h9) rfl dX1_passesNeeded_9 ?_
  refine lv_icmp_ge (tgt := 38) hx hb dX1_passesNeeded_12 (by decide) (fun c_1 => ?_) (fun c_1 => absurd (by decide) c_1)
  refine lv_iload_n hx hb dX1_passesNeeded_38 rfl (lv_at hl 1 rfl) ?_
  exact W.iret (v := 0) hx hb hr (fun t ht hW => ⟨⟨0, (), rfl, rfl, P_at ht hP⟩, hS.F ht⟩) hS.2.2 dX1_passesNeeded_39
set_option maxHeartbeats 4000000 in
set_option maxRecDepth 100000 in
theorem c_X1_checkReplacement (l : Launch) (dC : Nat → ClassId) (dI : Nat → Nat → Nat) (g : Nat → ClassId) (Wd : va_W) (t : Nat) (mk : Nat) (tr : Nat) (pl : Nat) (wi : Nat) (rr : Nat) (ou : Nat) (tm : Nat) (bk : Nat) (tp : Nat) (ra : Nat) (rb : Nat) (rc : Nat) (k0 : Nat) (w0 : Wd[k0]? = some (t, .inr (3, [.ref mk, .ref tr, .ref pl, .ref wi, .ref rr, .ref ou, .ref tm, .int 0]))) (k1 : Nat) (w1 : Wd[k1]? = some (rr, .inr (9, [.ref ra, .ref rb, .ref rc, .int 0, .int 0]))) (sz : Nat) : Met l yX1_checkReplacement wsX1_checkReplacement ({ frames := 1, cells := 0, slots := 0, locals := 21 }) (va_Pc [.ref t, .ref bk, .ref tp] (PG (dC, dI) g Wd sz)) (va_Qv (fun (_ : Unit) => True) (fun (_ : Unit) t => va_P (dC, dI) vwCl Wd t.heap) (va_A Wd sz)) 0 0 (va_A Wd sz) := by
  refine Met.ofW (cc := cX1_checkReplacement) (maxL := 4) (ret := none) (by decide) rfl ?_
  intro p e s m args below meth c s₁ B hml hv
  obtain ⟨rfl, hsz, hP, hK, hD0, hG⟩ := hv
  have hx := B.exec
  have hb := B.bytes
  have hr := B.returns
  have hts := atoms_spec (ws := wsX1_checkReplacement) B.pre
  have hown : s.vm.findClass RX1 = some m.cls := findClass_of_methodNamed B.named
  have hlocks := B.notSynchronized
  subst hsz
  have hD := hD0.self (sz := s.heap.size)
  generalize hAe : va_A Wd s.heap.size = A at hD hG ⊢
  have hA : ∀ q : Nat, s.heap.size ≤ q → A q := fun q h => by rw [← hAe]; exact Or.inr h
  have hS : va_S A s.heap s.heap [] := va_S.rf
  have hl := lv_entry ([.ref t, .ref bk, .ref tp]) (n := 4) (Nat.le_of_ble_eq_true rfl)
  rw [lg_entry_eq]
  generalize (lg_sl ([.ref t, .ref bk, .ref tp]) ++ List.replicate (4 - (lg_sl ([.ref t, .ref bk, .ref tp])).length) Slot.unset).toArray = ls at hl ⊢
  have hl : lv_has ls 4 [(0, .ref t), (1, .ref bk), (2, .ref tp)] := hl
  have hf42 := hts (Cond.fieldLink RX1 42 "RunmergeOffice$Checker" "runRow" "LRunmergeOffice$RunRow;") (by decide +kernel)
  have hiX1 : ∀ w ∈ u_ws RX1 TX1 8, w ∈ wsX1_checkReplacement := by decide +kernel
  have hiX7 : ∀ w ∈ u_ws RX7 TX7 5, w ∈ wsX1_checkReplacement := by decide +kernel
  refine lv_iconst (v := 0) hx hb dX1_checkReplacement_0 (by decide) ?_
  refine lv_istore_n (lv' := [(3, .int 0), (0, .ref t), (1, .ref bk), (2, .ref tp)]) hx hb dX1_checkReplacement_1 rfl hl (by decide) rfl (fun ls hl => ?_)
  refine lv_iload_n hx hb dX1_checkReplacement_2 rfl (lv_at hl 0 rfl) ?_
  refine lv_iconst (v := 1) hx hb dX1_checkReplacement_3 (by decide) ?_
  refine lv_iadd hx hb dX1_checkReplacement_4 ?_
  refine lv_topi (fun x_1 ex_1 => ?_)
  obtain rfl : x_1 = 1 := ex_1.trans (by decide)
  refine lv_aload_n hx hb dX1_checkReplacement_5 rfl (lv_at hl 1 rfl) ?_
  refine va_get (D := (dC, dI)) (ci := 3) (v := .ref rr) (C := RX1) (T := TX1) (N := 8) hx hb hts hiX1 hown hK hP k0 w0 rfl 4 (by decide) hf42 (fun _ h9 => h9) rfl dX1_checkReplacement_6 ?_
  refine va_getN (D := (dC, dI)) (ci := 9) (v := .int 0) (C := RX7) (T := TX7) (N := 5) hx hb hts hiX7 hown hK hP k1 w1 rfl 3 (by decide) (nf_28 hG) (fun _ h9 => h9) rfl dX1_checkReplacement_9 ?_
  refine lv_icmp_ge (tgt := 48) hx hb dX1_checkReplacement_12 (by decide) (fun c_2 => ?_) (fun c_2 => absurd (by decide) c_2)
  refine lv_aload_n hx hb dX1_checkReplacement_48 rfl (lv_at hl 1 rfl) ?_
  refine lv_aload_n hx hb dX1_checkReplacement_49 rfl (lv_at hl 1 rfl) ?_
  refine va_get (D := (dC, dI)) (ci := 3) (v := .ref rr) (C := RX1) (T := TX1) (N := 8) hx hb hts hiX1 hown hK hP k0 w0 rfl 4 (by decide) hf42 (fun _ h9 => h9) rfl dX1_checkReplacement_50 ?_
  refine va_getN (D := (dC, dI)) (ci := 9) (v := .int 0) (C := RX7) (T := TX7) (N := 5) hx hb hts hiX7 hown hK hP k1 w1 rfl 3 (by decide) (nf_28 hG) (fun _ h9 => h9) rfl dX1_checkReplacement_53 ?_
  refine lv_iconst (v := 1) hx hb dX1_checkReplacement_56 (by decide) ?_
  refine lv_icmp_le (tgt := 75) hx hb dX1_checkReplacement_57 (by decide) (fun c_3 => ?_) (fun c_3 => absurd (by decide) c_3)
  refine lv_iconst (v := 1) hx hb dX1_checkReplacement_75 (by decide) ?_
  refine lv_goto (tgt := 80) hx hb dX1_checkReplacement_76 (by decide) ?_
  refine va_callv (va_runV (As := [.int 1]) (rest := []) ⟨hx, hb, hml, hown, hts⟩ (c_X1_demand l dC dI g Wd t mk tr pl wi rr ou tm k0 w0  s.heap.size) (cwV 1 hts gX1_checkReplacement_X1_demand rfl rfl rfl (by decide +kernel) ⟨Nat.le_of_ble_eq_true rfl, Nat.le_of_ble_eq_true rfl⟩) ⟨PG_blind, va_recv hK hP (ci := 3) (q0 := k0) rfl w0, PG_call hK hG hS hP hD (A_all hD hA hS.1)⟩ rfl rfl hl.1 rfl (lv_room (Nat.le_of_ble_eq_true rfl)) dX1_checkReplacement_80 ⟨Nat.le_of_ble_eq_true rfl, Nat.le_of_ble_eq_true rfl⟩) hS (fun q _ h => (A_all hD hA hS.1) q h) (A_all hD hA hS.1) (fun u_4 t_4 H_4 L_4 ht_4 hvm_4 hw_4 hB_4 hz_4 hk_4 hS => ?_)
  replace hB_4 := (show va_P (dC, dI) vwCl Wd t_4.heap from hB_4)
  rw [ht_4] at hB_4
  have hP := hB_4
  exact W.vret hx hb hr (fun t ht hW => ⟨⟨(), rfl, trivial, P_at ht hP⟩, hS.F ht⟩) hS.2.2 dX1_checkReplacement_83
set_option maxHeartbeats 4000000 in
set_option maxRecDepth 100000 in
theorem c_X8_takeOver (l : Launch) (dC : Nat → ClassId) (dI : Nat → Nat → Nat) (g : Nat → ClassId) (Wd : va_W) (t : Nat) (w : Nat) (k0 : Nat) (w0 : Wd[k0]? = some (t, .inr (10, [.int 0, .int 1, .int 4, .int 0, .int 2]))) (k1 : Nat) (w1 : Wd[k1]? = some (w, .inr (10, [.int 0, .int 1, .int 4, .int 0, .int 2]))) (sz : Nat) : Met l yX8_takeOver wsX8_takeOver ({ frames := 0, cells := 0, slots := 0, locals := 0 }) (va_Pc [.ref t, .ref w] (PG (dC, dI) g Wd sz)) (va_Qv (fun (_ : Unit) => True) (fun (_ : Unit) t => va_P (dC, dI) vwCl Wd t.heap) (va_A Wd sz)) 0 0 (va_A Wd sz) := by
  refine Met.ofW (cc := cX8_takeOver) (maxL := 2) (ret := none) (by decide) rfl ?_
  intro p e s m args below meth c s₁ B hml hv
  obtain ⟨rfl, hsz, hP, hK, hD0, hG⟩ := hv
  have hx := B.exec
  have hb := B.bytes
  have hr := B.returns
  have hts := atoms_spec (ws := wsX8_takeOver) B.pre
  have hown : s.vm.findClass RX8 = some m.cls := findClass_of_methodNamed B.named
  have hlocks := B.notSynchronized
  subst hsz
  have hD := hD0.self (sz := s.heap.size)
  generalize hAe : va_A Wd s.heap.size = A at hD hG ⊢
  have hA : ∀ q : Nat, s.heap.size ≤ q → A q := fun q h => by rw [← hAe]; exact Or.inr h
  have hS : va_S A s.heap s.heap [] := va_S.rf
  have hl := lv_entry ([.ref t, .ref w]) (n := 2) (Nat.le_of_ble_eq_true rfl)
  rw [lg_entry_eq]
  generalize (lg_sl ([.ref t, .ref w]) ++ List.replicate (2 - (lg_sl ([.ref t, .ref w])).length) Slot.unset).toArray = ls at hl ⊢
  have hl : lv_has ls 2 [(0, .ref t), (1, .ref w)] := hl
  have hf9 := hts (Cond.fieldLink RX8 9 "RunmergeOffice$Settings" "order" "I") (by decide +kernel)
  have hiX8 : ∀ w ∈ u_ws RX8 TX8 5, w ∈ wsX8_takeOver := by decide +kernel
  have hf15 := hts (Cond.fieldLink RX8 15 "RunmergeOffice$Settings" "runWay" "I") (by decide +kernel)
  have hf18 := hts (Cond.fieldLink RX8 18 "RunmergeOffice$Settings" "memory" "I") (by decide +kernel)
  have hf21 := hts (Cond.fieldLink RX8 21 "RunmergeOffice$Settings" "mergeWay" "I") (by decide +kernel)
  have hf24 := hts (Cond.fieldLink RX8 24 "RunmergeOffice$Settings" "ways" "I") (by decide +kernel)
  refine lv_aload_n hx hb dX8_takeOver_0 rfl (lv_at hl 0 rfl) ?_
  refine lv_aload_n hx hb dX8_takeOver_1 rfl (lv_at hl 1 rfl) ?_
  refine va_get (D := (dC, dI)) (ci := 10) (v := .int 0) (C := RX8) (T := TX8) (N := 5) hx hb hts hiX8 hown hK hP k1 w1 rfl 0 (by decide) hf9 (fun _ h9 => h9) rfl dX8_takeOver_2 ?_
  refine va_putS (D := (dC, dI)) (ci := 10) (v := .int 0) (ty := .int) (C := RX8) (T := TX8) (N := 5) hx hb hts hiX8 tyX8 tyX8_ok nmX8 hown hK hP hD hS k0 w0 rfl 0 (by decide) hf9 (fun _ h9 => h9) rfl (by decide +kernel) rfl rfl (Nat.le_of_ble_eq_true rfl) rfl dX8_takeOver_5 (fun H_1 L_2 hP hS => ?_)
  refine lv_aload_n hx hb dX8_takeOver_8 rfl (lv_at hl 0 rfl) ?_
  refine lv_aload_n hx hb dX8_takeOver_9 rfl (lv_at hl 1 rfl) ?_
  refine va_get (D := (dC, dI)) (ci := 10) (v := .int 1) (C := RX8) (T := TX8) (N := 5) hx hb hts hiX8 hown hK hP k1 w1 rfl 1 (by decide) hf15 (fun _ h9 => h9) rfl dX8_takeOver_10 ?_
  refine va_putS (D := (dC, dI)) (ci := 10) (v := .int 1) (ty := .int) (C := RX8) (T := TX8) (N := 5) hx hb hts hiX8 tyX8 tyX8_ok nmX8 hown hK hP hD hS k0 w0 rfl 1 (by decide) hf15 (fun _ h9 => h9) rfl (by decide +kernel) rfl rfl (Nat.le_of_ble_eq_true rfl) rfl dX8_takeOver_13 (fun H_3 L_4 hP hS => ?_)
  refine lv_aload_n hx hb dX8_takeOver_16 rfl (lv_at hl 0 rfl) ?_
  refine lv_aload_n hx hb dX8_takeOver_17 rfl (lv_at hl 1 rfl) ?_
  refine va_get (D := (dC, dI)) (ci := 10) (v := .int 4) (C := RX8) (T := TX8) (N := 5) hx hb hts hiX8 hown hK hP k1 w1 rfl 2 (by decide) hf18 (fun _ h9 => h9) rfl dX8_takeOver_18 ?_
  refine va_putS (D := (dC, dI)) (ci := 10) (v := .int 4) (ty := .int) (C := RX8) (T := TX8) (N := 5) hx hb hts hiX8 tyX8 tyX8_ok nmX8 hown hK hP hD hS k0 w0 rfl 2 (by decide) hf18 (fun _ h9 => h9) rfl (by decide +kernel) rfl rfl (Nat.le_of_ble_eq_true rfl) rfl dX8_takeOver_21 (fun H_5 L_6 hP hS => ?_)
  refine lv_aload_n hx hb dX8_takeOver_24 rfl (lv_at hl 0 rfl) ?_
  refine lv_aload_n hx hb dX8_takeOver_25 rfl (lv_at hl 1 rfl) ?_
  refine va_get (D := (dC, dI)) (ci := 10) (v := .int 0) (C := RX8) (T := TX8) (N := 5) hx hb hts hiX8 hown hK hP k1 w1 rfl 3 (by decide) hf21 (fun _ h9 => h9) rfl dX8_takeOver_26 ?_
  refine va_putS (D := (dC, dI)) (ci := 10) (v := .int 0) (ty := .int) (C := RX8) (T := TX8) (N := 5) hx hb hts hiX8 tyX8 tyX8_ok nmX8 hown hK hP hD hS k0 w0 rfl 3 (by decide) hf21 (fun _ h9 => h9) rfl (by decide +kernel) rfl rfl (Nat.le_of_ble_eq_true rfl) rfl dX8_takeOver_29 (fun H_7 L_8 hP hS => ?_)
  refine lv_aload_n hx hb dX8_takeOver_32 rfl (lv_at hl 0 rfl) ?_
  refine lv_aload_n hx hb dX8_takeOver_33 rfl (lv_at hl 1 rfl) ?_
  refine va_get (D := (dC, dI)) (ci := 10) (v := .int 2) (C := RX8) (T := TX8) (N := 5) hx hb hts hiX8 hown hK hP k1 w1 rfl 4 (by decide) hf24 (fun _ h9 => h9) rfl dX8_takeOver_34 ?_
  refine va_putS (D := (dC, dI)) (ci := 10) (v := .int 2) (ty := .int) (C := RX8) (T := TX8) (N := 5) hx hb hts hiX8 tyX8 tyX8_ok nmX8 hown hK hP hD hS k0 w0 rfl 4 (by decide) hf24 (fun _ h9 => h9) rfl (by decide +kernel) rfl rfl (Nat.le_of_ble_eq_true rfl) rfl dX8_takeOver_37 (fun H_9 L_10 hP hS => ?_)
  exact W.vret hx hb hr (fun t ht hW => ⟨⟨(), rfl, trivial, P_at ht hP⟩, hS.F ht⟩) hS.2.2 dX8_takeOver_40
set_option maxHeartbeats 4000000 in
set_option maxRecDepth 100000 in
theorem c_X1_hasSameRecords (l : Launch) (dC : Nat → ClassId) (dI : Nat → Nat → Nat) (g : Nat → ClassId) (t : Nat) (mk : Nat) (tr : Nat) (pl : Nat) (wi : Nat) (rr : Nat) (ou : Nat) (tm : Nat) (tp : Nat) (h : Nat) (ho : Nat) (sz : Nat) : Met l yX1_hasSameRecords wsX1_hasSameRecords ({ frames := 1, cells := 0, slots := 0, locals := 24 }) (va_Pc [.ref t, .ref tp] (PG (dC, dI) g [(t, .inr (3, [.ref mk, .ref tr, .ref pl, .ref wi, .ref rr, .ref ou, .ref tm, .int 0])), (tp, .inr (11, [.ref h, .int 0])), (ou, .inr (11, [.ref ho, .int 0])), (tm, .inl (g 0, 200, .inl (fun _ => 0)))] sz)) (va_Qi (fun (r : Int32) (_ : Unit) => r = 1) (fun (_ : Unit) t9 => va_P (dC, dI) vwCl [(t, .inr (3, [.ref mk, .ref tr, .ref pl, .ref wi, .ref rr, .ref ou, .ref tm, .int 0])), (tp, .inr (11, [.ref h, .int 0])), (ou, .inr (11, [.ref ho, .int 0])), (tm, .inl (g 0, 200, .inl (fun _ => 0)))] t9.heap ∧ va_D (va_A [(t, .inr (3, [.ref mk, .ref tr, .ref pl, .ref wi, .ref rr, .ref ou, .ref tm, .int 0])), (tp, .inr (11, [.ref h, .int 0])), (ou, .inr (11, [.ref ho, .int 0])), (tm, .inl (g 0, 200, .inl (fun _ => 0)))] sz) [(t, .inr (3, [.ref mk, .ref tr, .ref pl, .ref wi, .ref rr, .ref ou, .ref tm, .int 0])), (tp, .inr (11, [.ref h, .int 0])), (ou, .inr (11, [.ref ho, .int 0])), (tm, .inl (g 0, 200, .inl (fun _ => 0)))]) (va_A [(t, .inr (3, [.ref mk, .ref tr, .ref pl, .ref wi, .ref rr, .ref ou, .ref tm, .int 0])), (tp, .inr (11, [.ref h, .int 0])), (ou, .inr (11, [.ref ho, .int 0])), (tm, .inl (g 0, 200, .inl (fun _ => 0)))] sz)) 0 0 (va_A [(t, .inr (3, [.ref mk, .ref tr, .ref pl, .ref wi, .ref rr, .ref ou, .ref tm, .int 0])), (tp, .inr (11, [.ref h, .int 0])), (ou, .inr (11, [.ref ho, .int 0])), (tm, .inl (g 0, 200, .inl (fun _ => 0)))] sz) := by
  refine Met.ofW (cc := cX1_hasSameRecords) (maxL := 3) (ret := (some .boolean)) (by decide) rfl ?_
  intro p e s m args below meth c s₁ B hml hv
  obtain ⟨rfl, hsz, hP, hK, hD0, hG⟩ := hv
  have hx := B.exec
  have hb := B.bytes
  have hr := B.returns
  have hts := atoms_spec (ws := wsX1_hasSameRecords) B.pre
  have hown : s.vm.findClass RX1 = some m.cls := findClass_of_methodNamed B.named
  have hlocks := B.notSynchronized
  subst hsz
  have hD := hD0.self (sz := s.heap.size)
  generalize hAe : va_A [(t, .inr (3, [.ref mk, .ref tr, .ref pl, .ref wi, .ref rr, .ref ou, .ref tm, .int 0])), (tp, .inr (11, [.ref h, .int 0])), (ou, .inr (11, [.ref ho, .int 0])), (tm, .inl (g 0, 200, .inl (fun _ => 0)))] s.heap.size = A at hD hG ⊢
  have hA : ∀ q : Nat, s.heap.size ≤ q → A q := fun q h => by rw [← hAe]; exact Or.inr h
  have hS : va_S A s.heap s.heap [] := va_S.rf
  have hl := lv_entry ([.ref t, .ref tp]) (n := 3) (Nat.le_of_ble_eq_true rfl)
  rw [lg_entry_eq]
  generalize (lg_sl ([.ref t, .ref tp]) ++ List.replicate (3 - (lg_sl ([.ref t, .ref tp])).length) Slot.unset).toArray = ls at hl ⊢
  have hl : lv_has ls 3 [(0, .ref t), (1, .ref tp)] := hl
  have hf49 := hts (Cond.fieldLink RX1 49 "RunmergeOffice$Checker" "out" "LRunmergeOffice$Tape;") (by decide +kernel)
  have hiX1 : ∀ w ∈ u_ws RX1 TX1 8, w ∈ wsX1_hasSameRecords := by decide +kernel
  have hf53 := hts (Cond.fieldLink RX1 53 "RunmergeOffice$Checker" "times" "[I") (by decide +kernel)
  refine lv_iconst (v := 0) hx hb dX1_hasSameRecords_0 (by decide) ?_
  refine lv_istore_n (lv' := [(2, .int 0), (0, .ref t), (1, .ref tp)]) hx hb dX1_hasSameRecords_1 rfl hl (by decide) rfl (fun ls hl => ?_)
  refine W_abs (fun Q hQ => ?_)
  have LOOP2 : ∀ (n i : Nat), i ≤ 200 → 200 < i + n → ∀  (H : Heap) (locs : List Loc), va_P (dC, dI) vwCl [(t, .inr (3, [.ref mk, .ref tr, .ref pl, .ref wi, .ref rr, .ref ou, .ref tm, .int 0])), (tp, .inr (11, [.ref h, .int 0])), (ou, .inr (11, [.ref ho, .int 0])), (tm, .inl (g 0, 200, .inl (fun _ => 0)))] H → va_D A [(t, .inr (3, [.ref mk, .ref tr, .ref pl, .ref wi, .ref rr, .ref ou, .ref tm, .int 0])), (tp, .inr (11, [.ref h, .int 0])), (ou, .inr (11, [.ref ho, .int 0])), (tm, .inl (g 0, 200, .inl (fun _ => 0)))] → va_S A s.heap H locs → ∀ (ls : Array Slot), lv_has ls 3 [(2, .int (nI i)), (0, .ref t), (1, .ref tp)] → W p l e (headSpec wsX1_hasSameRecords ({ frames := 1, cells := 0, slots := 0, locals := 24 })).room s m ([.ref t, .ref tp] : List Value).toArray below meth c H locs 0 0 Q (F0 m 2 ls []) := by
    intro n
    induction n with
    | zero =>
      intro i h1 h2
      exact absurd h2 (by omega)
    | succ n ih =>
      intro i hi hin  H locs hP hD hS ls hl
      refine lv_iload_n hx hb dX1_hasSameRecords_2 rfl (lv_at hl 0 rfl) ?_
      refine lv_sipush (v := 200) hx hb dX1_hasSameRecords_3 (by decide) ?_
      refine lv_icmp_ge (tgt := 22) hx hb dX1_hasSameRecords_6 (by decide) (fun c_1 => ?_) (fun c_1 => ?_)
      · have c9 : nI 200 ≤ nI i := c_1
        have h9 := (nI_leI (by omega) (by omega)).mp c9
        obtain rfl : i = 200 := by omega
        refine lv_aload_n hx hb dX1_hasSameRecords_22 rfl (lv_at hl 1 rfl) ?_
        refine lv_aload_n hx hb dX1_hasSameRecords_23 rfl (lv_at hl 2 rfl) ?_
        refine lv_iconst (v := 1) hx hb dX1_hasSameRecords_24 (by decide) ?_
        refine va_callv (va_runV (As := [.ref tp, .int 1]) (rest := []) ⟨hx, hb, hml, hown, hts⟩ (c_X1_countRecords l dC dI g [(t, .inr (3, [.ref mk, .ref tr, .ref pl, .ref wi, .ref rr, .ref ou, .ref tm, .int 0])), (tp, .inr (11, [.ref h, .int 0])), (ou, .inr (11, [.ref ho, .int 0])), (tm, .inl (g 0, 200, .inl (fun _ => 0)))] t tp h 1 1 rfl  H.size) (cwV 2 hts gX1_hasSameRecords_X1_countRecords rfl rfl rfl (by decide +kernel) ⟨Nat.le_of_ble_eq_true rfl, Nat.le_of_ble_eq_true rfl⟩) ⟨PG_blind, va_recv hK hP (ci := 3) (q0 := 0) rfl rfl, PG_call hK hG hS hP hD (A_all hD hA hS.1)⟩ rfl rfl hl.1 rfl (lv_room (Nat.le_of_ble_eq_true rfl)) dX1_hasSameRecords_25 ⟨Nat.le_of_ble_eq_true rfl, Nat.le_of_ble_eq_true rfl⟩) hS (fun q _ h => (A_all hD hA hS.1) q h) (A_all hD hA hS.1) (fun u_2 t_2 H_2 L_2 ht_2 hvm_2 hw_2 hB_2 hz_2 hk_2 hS => ?_)
        replace hB_2 := (show va_P (dC, dI) vwCl [(t, .inr (3, [.ref mk, .ref tr, .ref pl, .ref wi, .ref rr, .ref ou, .ref tm, .int 0])), (tp, .inr (11, [.ref h, .int 0])), (ou, .inr (11, [.ref ho, .int 0])), (tm, .inl (g 0, 200, .inl (fun _ => 0)))] t_2.heap from hB_2)
        rw [ht_2] at hB_2
        have hP := hB_2
        refine lv_aload_n hx hb dX1_hasSameRecords_28 rfl (lv_at hl 1 rfl) ?_
        refine lv_aload_n hx hb dX1_hasSameRecords_29 rfl (lv_at hl 1 rfl) ?_
        refine va_get (D := (dC, dI)) (ci := 3) (v := .ref ou) (C := RX1) (T := TX1) (N := 8) hx hb hts hiX1 hown hK hP 0 rfl rfl 5 (by decide) hf49 (fun _ h9 => h9) rfl dX1_hasSameRecords_30 ?_
        refine lv_iconst (v := (-1)) hx hb dX1_hasSameRecords_33 (by decide) ?_
        refine va_callv (va_runV (As := [.ref ou, .int (-1)]) (rest := []) ⟨hx, hb, hml, hown, hts⟩ (c_X1_countRecords l dC dI g [(t, .inr (3, [.ref mk, .ref tr, .ref pl, .ref wi, .ref rr, .ref ou, .ref tm, .int 0])), (tp, .inr (11, [.ref h, .int 0])), (ou, .inr (11, [.ref ho, .int 0])), (tm, .inl (g 0, 200, .inl (fun _ => 0)))] t ou ho (-1) 2 rfl  H_2.size) (cwV 2 hts gX1_hasSameRecords_X1_countRecords rfl rfl rfl (by decide +kernel) ⟨Nat.le_of_ble_eq_true rfl, Nat.le_of_ble_eq_true rfl⟩) ⟨PG_blind, va_recv hK hP (ci := 3) (q0 := 0) rfl rfl, PG_call hK hG hS hP hD (A_all hD hA hS.1)⟩ rfl rfl hl.1 rfl (lv_room (Nat.le_of_ble_eq_true rfl)) dX1_hasSameRecords_34 ⟨Nat.le_of_ble_eq_true rfl, Nat.le_of_ble_eq_true rfl⟩) hS (fun q _ h => (A_all hD hA hS.1) q h) (A_all hD hA hS.1) (fun u_3 t_3 H_3 L_3 ht_3 hvm_3 hw_3 hB_3 hz_3 hk_3 hS => ?_)
        replace hB_3 := (show va_P (dC, dI) vwCl [(t, .inr (3, [.ref mk, .ref tr, .ref pl, .ref wi, .ref rr, .ref ou, .ref tm, .int 0])), (tp, .inr (11, [.ref h, .int 0])), (ou, .inr (11, [.ref ho, .int 0])), (tm, .inl (g 0, 200, .inl (fun _ => 0)))] t_3.heap from hB_3)
        rw [ht_3] at hB_3
        have hP := hB_3
        refine lv_iconst (v := 0) hx hb dX1_hasSameRecords_37 (by decide) ?_
        refine lv_istore_n (lv' := [(2, .int 0), (0, .ref t), (1, .ref tp)]) hx hb dX1_hasSameRecords_38 rfl hl (by decide) rfl (fun ls hl => ?_)
        have LOOP39 : ∀ (n i : Nat), i ≤ 200 → 200 < i + n → ∀  (H : Heap) (locs : List Loc), va_P (dC, dI) vwCl [(t, .inr (3, [.ref mk, .ref tr, .ref pl, .ref wi, .ref rr, .ref ou, .ref tm, .int 0])), (tp, .inr (11, [.ref h, .int 0])), (ou, .inr (11, [.ref ho, .int 0])), (tm, .inl (g 0, 200, .inl (fun _ => 0)))] H → va_D A [(t, .inr (3, [.ref mk, .ref tr, .ref pl, .ref wi, .ref rr, .ref ou, .ref tm, .int 0])), (tp, .inr (11, [.ref h, .int 0])), (ou, .inr (11, [.ref ho, .int 0])), (tm, .inl (g 0, 200, .inl (fun _ => 0)))] → va_S A s.heap H locs → ∀ (ls : Array Slot), lv_has ls 3 [(2, .int (nI i)), (0, .ref t), (1, .ref tp)] → W p l e (headSpec wsX1_hasSameRecords ({ frames := 1, cells := 0, slots := 0, locals := 24 })).room s m ([.ref t, .ref tp] : List Value).toArray below meth c H locs 0 0 Q (F0 m 39 ls []) := by
          intro n
          induction n with
          | zero =>
            intro i h1 h2
            exact absurd h2 (by omega)
          | succ n ih =>
            intro i hi hin  H locs hP hD hS ls hl
            refine lv_iload_n hx hb dX1_hasSameRecords_39 rfl (lv_at hl 0 rfl) ?_
            refine lv_sipush (v := 200) hx hb dX1_hasSameRecords_40 (by decide) ?_
            refine lv_icmp_ge (tgt := 63) hx hb dX1_hasSameRecords_43 (by decide) (fun c_4 => ?_) (fun c_4 => ?_)
            · have c9 : nI 200 ≤ nI i := c_4
              have h9 := (nI_leI (by omega) (by omega)).mp c9
              obtain rfl : i = 200 := by omega
              refine lv_iconst (v := 1) hx hb dX1_hasSameRecords_63 (by decide) ?_
              subst hQ
              have hP9 := hP.sub (ws' := [(t, .inr (3, [.ref mk, .ref tr, .ref pl, .ref wi, .ref rr, .ref ou, .ref tm, .int 0])), (tp, .inr (11, [.ref h, .int 0])), (ou, .inr (11, [.ref ho, .int 0])), (tm, .inl (g 0, 200, .inl (fun _ => 0)))]) [0, 1, 2, 3] rfl
              have hD9 := hD.sub (ws' := [(t, .inr (3, [.ref mk, .ref tr, .ref pl, .ref wi, .ref rr, .ref ou, .ref tm, .int 0])), (tp, .inr (11, [.ref h, .int 0])), (ou, .inr (11, [.ref ho, .int 0])), (tm, .inl (g 0, 200, .inl (fun _ => 0)))]) [0, 1, 2, 3] (by decide) rfl
              exact W.zret (v := 1) hx hb hr rfl (fun t ht hW => ⟨⟨1, (), rfl, rfl, ⟨P_at ht hP9, hD9⟩⟩, hS.F ht⟩) hS.2.2 dX1_hasSameRecords_64
            · have hlt : i < 200 := by
                rcases Nat.lt_or_ge i 200 with q | q
                · exact q
                · exact absurd (show (200 : Int32) ≤ nI i from nI_le q (by omega)) c_4
              refine lv_aload_n hx hb dX1_hasSameRecords_46 rfl (lv_at hl 1 rfl) ?_
              refine va_get (D := (dC, dI)) (ci := 3) (v := .ref tm) (C := RX1) (T := TX1) (N := 8) hx hb hts hiX1 hown hK hP 0 rfl rfl 6 (by decide) hf53 (fun _ h9 => h9) rfl dX1_hasSameRecords_47 ?_
              refine lv_iload_n hx hb dX1_hasSameRecords_50 rfl (lv_at hl 0 rfl) ?_
              refine va_iald hx hb hK hP 3 0 rfl rfl (vp_in_nI hlt (by decide)) dX1_hasSameRecords_51 ?_
              refine lv_topi (fun x_5 ex_5 => ?_)
              obtain rfl : x_5 = 0 := ex_5
              refine lv_if_eq (tgt := 57) hx hb dX1_hasSameRecords_52 (by decide) (fun c_6 => ?_) (fun c_6 => absurd (by decide) c_6)
              refine lv_iinc (v := (nI (i + 1))) (lv' := [(2, .int (nI (i + 1))), (0, .ref t), (1, .ref tp)]) hx hb dX1_hasSameRecords_57 hl (k := 0) rfl (nI_1 _) (by decide) rfl (fun ls hl => ?_)
              refine lv_goto (tgt := 39) hx hb dX1_hasSameRecords_60 (by decide) ?_
              exact ih (i + 1) (by omega) (by omega)  _ _ (hP.sub [0, 1, 2, 3] rfl) (hD.sub [0, 1, 2, 3] (by decide) rfl) hS _ (lv_sub hl [0, 1, 2] rfl)
        exact LOOP39 (200 + 1) 0 (Nat.zero_le _) (by omega)  _ _ (hP.sub [0, 1, 2, 3] rfl) (hD.sub [0, 1, 2, 3] (by decide) rfl) hS _ (lv_sub hl [0, 1, 2] rfl)
      · have hlt : i < 200 := by
          rcases Nat.lt_or_ge i 200 with q | q
          · exact q
          · exact absurd (show (200 : Int32) ≤ nI i from nI_le q (by omega)) c_1
        refine lv_aload_n hx hb dX1_hasSameRecords_9 rfl (lv_at hl 1 rfl) ?_
        refine va_get (D := (dC, dI)) (ci := 3) (v := .ref tm) (C := RX1) (T := TX1) (N := 8) hx hb hts hiX1 hown hK hP 0 rfl rfl 6 (by decide) hf53 (fun _ h9 => h9) rfl dX1_hasSameRecords_10 ?_
        refine lv_iload_n hx hb dX1_hasSameRecords_13 rfl (lv_at hl 0 rfl) ?_
        refine lv_iconst (v := 0) hx hb dX1_hasSameRecords_14 (by decide) ?_
        refine va_iast hx hb hK hP hD hS 3 0 rfl rfl (vp_in_nI hlt (by decide)) dX1_hasSameRecords_15 (fun H_7 L_8 hP hD hS => ?_)
        rw [upd_zz] at hP hD
        have hP : va_P (dC, dI) vwCl [(t, .inr (3, [.ref mk, .ref tr, .ref pl, .ref wi, .ref rr, .ref ou, .ref tm, .int 0])), (tp, .inr (11, [.ref h, .int 0])), (ou, .inr (11, [.ref ho, .int 0])), (tm, .inl (g 0, 200, .inl (fun _ => 0)))] H_7 := hP
        have hD : va_D A [(t, .inr (3, [.ref mk, .ref tr, .ref pl, .ref wi, .ref rr, .ref ou, .ref tm, .int 0])), (tp, .inr (11, [.ref h, .int 0])), (ou, .inr (11, [.ref ho, .int 0])), (tm, .inl (g 0, 200, .inl (fun _ => 0)))] := hD
        refine lv_iinc (v := (nI (i + 1))) (lv' := [(2, .int (nI (i + 1))), (0, .ref t), (1, .ref tp)]) hx hb dX1_hasSameRecords_16 hl (k := 0) rfl (nI_1 _) (by decide) rfl (fun ls hl => ?_)
        refine lv_goto (tgt := 2) hx hb dX1_hasSameRecords_19 (by decide) ?_
        exact ih (i + 1) (by omega) (by omega)  _ _ (hP.sub [0, 1, 2, 3] rfl) (hD.sub [0, 1, 2, 3] (by decide) rfl) hS _ (lv_sub hl [0, 1, 2] rfl)
  exact LOOP2 (200 + 1) 0 (Nat.zero_le _) (by omega)  _ _ (hP.sub [0, 1, 2, 3] rfl) (hD.sub [0, 1, 2, 3] (by decide) rfl) hS _ (lv_sub hl [0, 1, 2] rfl)
