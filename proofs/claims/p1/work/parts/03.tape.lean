theorem dX9_empty_0 : decode cX9_empty 0 = .ok (.aload_n 0, 1) := by decide +kernel
theorem dX9_empty_1 : decode cX9_empty 1 = .ok (.iconst 0, 1) := by decide +kernel
theorem dX9_empty_2 : decode cX9_empty 2 = .ok (.putfield 15, 3) := by decide +kernel
theorem dX9_empty_5 : decode cX9_empty 5 = .ok (.return_, 1) := by decide +kernel
theorem dX9_isInOrder_0 : decode cX9_isInOrder 0 = .ok (.iconst 1, 1) := by decide +kernel
theorem dX9_isInOrder_1 : decode cX9_isInOrder 1 = .ok (.istore_n 3, 1) := by decide +kernel
theorem dX9_isInOrder_2 : decode cX9_isInOrder 2 = .ok (.iload_n 3, 1) := by decide +kernel
theorem dX9_isInOrder_3 : decode cX9_isInOrder 3 = .ok (.aload_n 0, 1) := by decide +kernel
theorem dX9_isInOrder_4 : decode cX9_isInOrder 4 = .ok (.getfield 15, 3) := by decide +kernel
theorem dX9_isInOrder_7 : decode cX9_isInOrder 7 = .ok (.if_icmp .ge 36, 3) := by decide +kernel
theorem dX9_isInOrder_43 : decode cX9_isInOrder 43 = .ok (.iconst 1, 1) := by decide +kernel
theorem dX9_isInOrder_44 : decode cX9_isInOrder 44 = .ok (.ireturn, 1) := by decide +kernel
theorem dX9_takeOver_0 : decode cX9_takeOver 0 = .ok (.aload_n 1, 1) := by decide +kernel
theorem dX9_takeOver_1 : decode cX9_takeOver 1 = .ok (.getfield 15, 3) := by decide +kernel
theorem dX9_takeOver_4 : decode cX9_takeOver 4 = .ok (.bipush 100, 2) := by decide +kernel
theorem dX9_takeOver_6 : decode cX9_takeOver 6 = .ok (.invokestatic 28, 3) := by decide +kernel
theorem dX9_takeOver_9 : decode cX9_takeOver 9 = .ok (.istore_n 2, 1) := by decide +kernel
theorem dX9_takeOver_10 : decode cX9_takeOver 10 = .ok (.iconst 0, 1) := by decide +kernel
theorem dX9_takeOver_11 : decode cX9_takeOver 11 = .ok (.istore_n 3, 1) := by decide +kernel
theorem dX9_takeOver_12 : decode cX9_takeOver 12 = .ok (.iload_n 3, 1) := by decide +kernel
theorem dX9_takeOver_13 : decode cX9_takeOver 13 = .ok (.iload_n 2, 1) := by decide +kernel
theorem dX9_takeOver_14 : decode cX9_takeOver 14 = .ok (.if_icmp .ge 21, 3) := by decide +kernel
theorem dX9_takeOver_35 : decode cX9_takeOver 35 = .ok (.aload_n 0, 1) := by decide +kernel
theorem dX9_takeOver_36 : decode cX9_takeOver 36 = .ok (.iload_n 2, 1) := by decide +kernel
theorem dX9_takeOver_37 : decode cX9_takeOver 37 = .ok (.putfield 15, 3) := by decide +kernel
theorem dX9_takeOver_40 : decode cX9_takeOver 40 = .ok (.return_, 1) := by decide +kernel
theorem dX9_reverse_0 : decode cX9_reverse 0 = .ok (.aload_n 0, 1) := by decide +kernel
theorem dX9_reverse_1 : decode cX9_reverse 1 = .ok (.getfield 15, 3) := by decide +kernel
theorem dX9_reverse_4 : decode cX9_reverse 4 = .ok (.bipush 100, 2) := by decide +kernel
theorem dX9_reverse_6 : decode cX9_reverse 6 = .ok (.invokestatic 28, 3) := by decide +kernel
theorem dX9_reverse_9 : decode cX9_reverse 9 = .ok (.istore_n 1, 1) := by decide +kernel
theorem dX9_reverse_10 : decode cX9_reverse 10 = .ok (.iconst 0, 1) := by decide +kernel
theorem dX9_reverse_11 : decode cX9_reverse 11 = .ok (.istore_n 2, 1) := by decide +kernel
theorem dX9_reverse_12 : decode cX9_reverse 12 = .ok (.iload_n 2, 1) := by decide +kernel
theorem dX9_reverse_13 : decode cX9_reverse 13 = .ok (.iload_n 1, 1) := by decide +kernel
theorem dX9_reverse_14 : decode cX9_reverse 14 = .ok (.iconst 2, 1) := by decide +kernel
theorem dX9_reverse_15 : decode cX9_reverse 15 = .ok (.idiv, 1) := by decide +kernel
theorem dX9_reverse_16 : decode cX9_reverse 16 = .ok (.if_icmp .ge 43, 3) := by decide +kernel
theorem dX9_reverse_59 : decode cX9_reverse 59 = .ok (.return_, 1) := by decide +kernel
theorem dX9_thinOut_0 : decode cX9_thinOut 0 = .ok (.aload_n 0, 1) := by decide +kernel
theorem dX9_thinOut_1 : decode cX9_thinOut 1 = .ok (.getfield 15, 3) := by decide +kernel
theorem dX9_thinOut_4 : decode cX9_thinOut 4 = .ok (.bipush 100, 2) := by decide +kernel
theorem dX9_thinOut_6 : decode cX9_thinOut 6 = .ok (.invokestatic 28, 3) := by decide +kernel
theorem dX9_thinOut_9 : decode cX9_thinOut 9 = .ok (.istore_n 3, 1) := by decide +kernel
theorem dX9_thinOut_10 : decode cX9_thinOut 10 = .ok (.iconst 0, 1) := by decide +kernel
theorem dX9_thinOut_11 : decode cX9_thinOut 11 = .ok (.istore 4, 2) := by decide +kernel
theorem dX9_thinOut_13 : decode cX9_thinOut 13 = .ok (.iconst 0, 1) := by decide +kernel
theorem dX9_thinOut_14 : decode cX9_thinOut 14 = .ok (.istore 5, 2) := by decide +kernel
theorem dX9_thinOut_16 : decode cX9_thinOut 16 = .ok (.iload 5, 2) := by decide +kernel
theorem dX9_thinOut_18 : decode cX9_thinOut 18 = .ok (.iload_n 3, 1) := by decide +kernel
theorem dX9_thinOut_19 : decode cX9_thinOut 19 = .ok (.if_icmp .ge 90, 3) := by decide +kernel
theorem dX9_thinOut_109 : decode cX9_thinOut 109 = .ok (.aload_n 0, 1) := by decide +kernel
theorem dX9_thinOut_110 : decode cX9_thinOut 110 = .ok (.iload 4, 2) := by decide +kernel
theorem dX9_thinOut_112 : decode cX9_thinOut 112 = .ok (.putfield 15, 3) := by decide +kernel
theorem dX9_thinOut_115 : decode cX9_thinOut 115 = .ok (.iload_n 3, 1) := by decide +kernel
theorem dX9_thinOut_116 : decode cX9_thinOut 116 = .ok (.iload 4, 2) := by decide +kernel
theorem dX9_thinOut_118 : decode cX9_thinOut 118 = .ok (.isub, 1) := by decide +kernel
theorem dX9_thinOut_119 : decode cX9_thinOut 119 = .ok (.ireturn, 1) := by decide +kernel
theorem dX9_countBelow_0 : decode cX9_countBelow 0 = .ok (.iconst 0, 1) := by decide +kernel
theorem dX9_countBelow_1 : decode cX9_countBelow 1 = .ok (.istore_n 3, 1) := by decide +kernel
theorem dX9_countBelow_2 : decode cX9_countBelow 2 = .ok (.iconst 0, 1) := by decide +kernel
theorem dX9_countBelow_3 : decode cX9_countBelow 3 = .ok (.istore 4, 2) := by decide +kernel
theorem dX9_countBelow_5 : decode cX9_countBelow 5 = .ok (.iload 4, 2) := by decide +kernel
theorem dX9_countBelow_7 : decode cX9_countBelow 7 = .ok (.aload_n 0, 1) := by decide +kernel
theorem dX9_countBelow_8 : decode cX9_countBelow 8 = .ok (.getfield 15, 3) := by decide +kernel
theorem dX9_countBelow_11 : decode cX9_countBelow 11 = .ok (.if_icmp .ge 28, 3) := by decide +kernel
theorem dX9_countBelow_39 : decode cX9_countBelow 39 = .ok (.iload_n 3, 1) := by decide +kernel
theorem dX9_countBelow_40 : decode cX9_countBelow 40 = .ok (.ireturn, 1) := by decide +kernel
theorem dX9_countUpTo_0 : decode cX9_countUpTo 0 = .ok (.iconst 0, 1) := by decide +kernel
theorem dX9_countUpTo_1 : decode cX9_countUpTo 1 = .ok (.istore_n 3, 1) := by decide +kernel
theorem dX9_countUpTo_2 : decode cX9_countUpTo 2 = .ok (.iconst 0, 1) := by decide +kernel
theorem dX9_countUpTo_3 : decode cX9_countUpTo 3 = .ok (.istore 4, 2) := by decide +kernel
theorem dX9_countUpTo_5 : decode cX9_countUpTo 5 = .ok (.iload 4, 2) := by decide +kernel
theorem dX9_countUpTo_7 : decode cX9_countUpTo 7 = .ok (.aload_n 0, 1) := by decide +kernel
theorem dX9_countUpTo_8 : decode cX9_countUpTo 8 = .ok (.getfield 15, 3) := by decide +kernel
theorem dX9_countUpTo_11 : decode cX9_countUpTo 11 = .ok (.if_icmp .ge 28, 3) := by decide +kernel
theorem dX9_countUpTo_39 : decode cX9_countUpTo 39 = .ok (.iload_n 3, 1) := by decide +kernel
theorem dX9_countUpTo_40 : decode cX9_countUpTo 40 = .ok (.ireturn, 1) := by decide +kernel
theorem dX9_unite_0 : decode cX9_unite 0 = .ok (.iconst 0, 1) := by decide +kernel
theorem dX9_unite_1 : decode cX9_unite 1 = .ok (.istore 4, 2) := by decide +kernel
theorem dX9_unite_3 : decode cX9_unite 3 = .ok (.iconst 0, 1) := by decide +kernel
theorem dX9_unite_4 : decode cX9_unite 4 = .ok (.istore 5, 2) := by decide +kernel
theorem dX9_unite_6 : decode cX9_unite 6 = .ok (.aload_n 2, 1) := by decide +kernel
theorem dX9_unite_7 : decode cX9_unite 7 = .ok (.getfield 15, 3) := by decide +kernel
theorem dX9_unite_10 : decode cX9_unite 10 = .ok (.aload_n 3, 1) := by decide +kernel
theorem dX9_unite_11 : decode cX9_unite 11 = .ok (.getfield 15, 3) := by decide +kernel
theorem dX9_unite_14 : decode cX9_unite 14 = .ok (.iadd, 1) := by decide +kernel
theorem dX9_unite_15 : decode cX9_unite 15 = .ok (.istore 6, 2) := by decide +kernel
theorem dX9_unite_17 : decode cX9_unite 17 = .ok (.iconst 0, 1) := by decide +kernel
theorem dX9_unite_18 : decode cX9_unite 18 = .ok (.istore 7, 2) := by decide +kernel
theorem dX9_unite_20 : decode cX9_unite 20 = .ok (.iload 7, 2) := by decide +kernel
theorem dX9_unite_22 : decode cX9_unite 22 = .ok (.iload 6, 2) := by decide +kernel
theorem dX9_unite_24 : decode cX9_unite 24 = .ok (.if_icmp .ge 113, 3) := by decide +kernel
theorem dX9_unite_137 : decode cX9_unite 137 = .ok (.return_, 1) := by decide +kernel
theorem dX9_pick_0 : decode cX9_pick 0 = .ok (.iconst 0, 1) := by decide +kernel
theorem dX9_pick_1 : decode cX9_pick 1 = .ok (.istore 5, 2) := by decide +kernel
theorem dX9_pick_3 : decode cX9_pick 3 = .ok (.iload 5, 2) := by decide +kernel
theorem dX9_pick_5 : decode cX9_pick 5 = .ok (.aload_n 2, 1) := by decide +kernel
theorem dX9_pick_6 : decode cX9_pick 6 = .ok (.getfield 15, 3) := by decide +kernel
theorem dX9_pick_9 : decode cX9_pick 9 = .ok (.if_icmp .ge 36, 3) := by decide +kernel
theorem dX9_pick_45 : decode cX9_pick 45 = .ok (.return_, 1) := by decide +kernel
set_option maxHeartbeats 4000000 in
set_option maxRecDepth 100000 in
theorem c_X9_empty (l : Launch) (dC : Nat → ClassId) (dI : Nat → Nat → Nat) (g : Nat → ClassId) (Wd : va_W) (t : Nat) (h : Nat) (k0 : Nat) (w0 : Wd[k0]? = some (t, .inr (11, [.ref h, .int 0]))) (sz : Nat) : Met l yX9_empty wsX9_empty ({ frames := 0, cells := 0, slots := 0, locals := 0 }) (va_Pc [.ref t] (PG (dC, dI) g Wd sz)) (va_Qv (fun (_ : Unit) => True) (fun (_ : Unit) t => va_P (dC, dI) vwCl Wd t.heap) (va_A Wd sz)) 0 0 (va_A Wd sz) := by
  refine Met.ofW (cc := cX9_empty) (maxL := 1) (ret := none) (by decide) rfl ?_
  intro p e s m args below meth c s₁ B hml hv
  obtain ⟨rfl, hsz, hP, hK, hD0, hG⟩ := hv
  have hx := B.exec
  have hb := B.bytes
  have hr := B.returns
  have hts := atoms_spec (ws := wsX9_empty) B.pre
  have hown : s.vm.findClass RX9 = some m.cls := findClass_of_methodNamed B.named
  have hlocks := B.notSynchronized
  subst hsz
  have hD := hD0.self (sz := s.heap.size)
  generalize hAe : va_A Wd s.heap.size = A at hD hG ⊢
  have hA : ∀ q : Nat, s.heap.size ≤ q → A q := fun q h => by rw [← hAe]; exact Or.inr h
  have hS : va_S A s.heap s.heap [] := va_S.rf
  have hl := lv_entry ([.ref t]) (n := 1) (Nat.le_of_ble_eq_true rfl)
  rw [lg_entry_eq]
  generalize (lg_sl ([.ref t]) ++ List.replicate (1 - (lg_sl ([.ref t])).length) Slot.unset).toArray = ls at hl ⊢
  have hl : lv_has ls 1 [(0, .ref t)] := hl
  have hf15 := hts (Cond.fieldLink RX9 15 "RunmergeOffice$Tape" "size" "I") (by decide +kernel)
  have hiX9 : ∀ w ∈ u_ws RX9 TX9 2, w ∈ wsX9_empty := by decide +kernel
  refine lv_aload_n hx hb dX9_empty_0 rfl (lv_at hl 0 rfl) ?_
  refine lv_iconst (v := 0) hx hb dX9_empty_1 (by decide) ?_
  refine va_putS (D := (dC, dI)) (ci := 11) (v := .int 0) (ty := .int) (C := RX9) (T := TX9) (N := 2) hx hb hts hiX9 tyX9 tyX9_ok nmX9 hown hK hP hD hS k0 w0 rfl 1 (by decide) hf15 (fun _ h9 => h9) rfl (by decide +kernel) rfl rfl (Nat.le_of_ble_eq_true rfl) rfl dX9_empty_2 (fun H_1 L_2 hP hS => ?_)
  exact W.vret hx hb hr (fun t ht hW => ⟨⟨(), rfl, trivial, P_at ht hP⟩, hS.F ht⟩) hS.2.2 dX9_empty_5
set_option maxHeartbeats 4000000 in
set_option maxRecDepth 100000 in
theorem c_X9_isInOrder (l : Launch) (dC : Nat → ClassId) (dI : Nat → Nat → Nat) (g : Nat → ClassId) (Wd : va_W) (t : Nat) (h : Nat) (bk : Nat) (od : Int32) (k0 : Nat) (w0 : Wd[k0]? = some (t, .inr (11, [.ref h, .int 0]))) (sz : Nat) : Met l yX9_isInOrder wsX9_isInOrder ({ frames := 0, cells := 0, slots := 0, locals := 0 }) (va_Pc [.ref t, .ref bk, .int od] (PG (dC, dI) g Wd sz)) (va_Qi (fun (r : Int32) (_ : Unit) => r = 1) (fun (_ : Unit) t => va_P (dC, dI) vwCl Wd t.heap) (va_A Wd sz)) 0 0 (va_A Wd sz) := by
  refine Met.ofW (cc := cX9_isInOrder) (maxL := 4) (ret := (some .boolean)) (by decide) rfl ?_
  intro p e s m args below meth c s₁ B hml hv
  obtain ⟨rfl, hsz, hP, hK, hD0, hG⟩ := hv
  have hx := B.exec
  have hb := B.bytes
  have hr := B.returns
  have hts := atoms_spec (ws := wsX9_isInOrder) B.pre
  have hown : s.vm.findClass RX9 = some m.cls := findClass_of_methodNamed B.named
  have hlocks := B.notSynchronized
  subst hsz
  have hD := hD0.self (sz := s.heap.size)
  generalize hAe : va_A Wd s.heap.size = A at hD hG ⊢
  have hA : ∀ q : Nat, s.heap.size ≤ q → A q := fun q h => by rw [← hAe]; exact Or.inr h
  have hS : va_S A s.heap s.heap [] := va_S.rf
  have hl := lv_entry ([.ref t, .ref bk, .int od]) (n := 4) (Nat.le_of_ble_eq_true rfl)
  rw [lg_entry_eq]
  generalize (lg_sl ([.ref t, .ref bk, .int od]) ++ List.replicate (4 - (lg_sl ([.ref t, .ref bk, .int od])).length) Slot.unset).toArray = ls at hl ⊢
  have hl : lv_has ls 4 [(0, .ref t), (1, .ref bk), (2, .int od)] := hl
  have hf15 := hts (Cond.fieldLink RX9 15 "RunmergeOffice$Tape" "size" "I") (by decide +kernel)
  have hiX9 : ∀ w ∈ u_ws RX9 TX9 2, w ∈ wsX9_isInOrder := by decide +kernel
  refine lv_iconst (v := 1) hx hb dX9_isInOrder_0 (by decide) ?_
  refine lv_istore_n (lv' := [(3, .int 1), (0, .ref t), (1, .ref bk), (2, .int od)]) hx hb dX9_isInOrder_1 rfl hl (by decide) rfl (fun ls hl => ?_)
  refine lv_iload_n hx hb dX9_isInOrder_2 rfl (lv_at hl 0 rfl) ?_
  refine lv_aload_n hx hb dX9_isInOrder_3 rfl (lv_at hl 1 rfl) ?_
  refine va_get (D := (dC, dI)) (ci := 11) (v := .int 0) (C := RX9) (T := TX9) (N := 2) hx hb hts hiX9 hown hK hP k0 w0 rfl 1 (by decide) hf15 (fun _ h9 => h9) rfl dX9_isInOrder_4 ?_
  refine lv_icmp_ge (tgt := 43) hx hb dX9_isInOrder_7 (by decide) (fun c_1 => ?_) (fun c_1 => absurd (by decide) c_1)
  refine lv_iconst (v := 1) hx hb dX9_isInOrder_43 (by decide) ?_
  exact W.zret (v := 1) hx hb hr rfl (fun t ht hW => ⟨⟨1, (), rfl, rfl, P_at ht hP⟩, hS.F ht⟩) hS.2.2 dX9_isInOrder_44
set_option maxHeartbeats 4000000 in
set_option maxRecDepth 100000 in
theorem c_X9_takeOver (l : Launch) (dC : Nat → ClassId) (dI : Nat → Nat → Nat) (g : Nat → ClassId) (Wd : va_W) (t : Nat) (h : Nat) (u : Nat) (hu : Nat) (k0 : Nat) (w0 : Wd[k0]? = some (t, .inr (11, [.ref h, .int 0]))) (k1 : Nat) (w1 : Wd[k1]? = some (u, .inr (11, [.ref hu, .int 0]))) (sz : Nat) : Met l yX9_takeOver wsX9_takeOver ({ frames := 1, cells := 0, slots := 0, locals := 13 }) (va_Pc [.ref t, .ref u] (PG (dC, dI) g Wd sz)) (va_Qv (fun (_ : Unit) => True) (fun (_ : Unit) t => va_P (dC, dI) vwCl Wd t.heap) (va_A Wd sz)) 0 0 (va_A Wd sz) := by
  refine Met.ofW (cc := cX9_takeOver) (maxL := 4) (ret := none) (by decide) rfl ?_
  intro p e s m args below meth c s₁ B hml hv
  obtain ⟨rfl, hsz, hP, hK, hD0, hG⟩ := hv
  have hx := B.exec
  have hb := B.bytes
  have hr := B.returns
  have hts := atoms_spec (ws := wsX9_takeOver) B.pre
  have hown : s.vm.findClass RX9 = some m.cls := findClass_of_methodNamed B.named
  have hlocks := B.notSynchronized
  subst hsz
  have hD := hD0.self (sz := s.heap.size)
  generalize hAe : va_A Wd s.heap.size = A at hD hG ⊢
  have hA : ∀ q : Nat, s.heap.size ≤ q → A q := fun q h => by rw [← hAe]; exact Or.inr h
  have hS : va_S A s.heap s.heap [] := va_S.rf
  have hl := lv_entry ([.ref t, .ref u]) (n := 4) (Nat.le_of_ble_eq_true rfl)
  rw [lg_entry_eq]
  generalize (lg_sl ([.ref t, .ref u]) ++ List.replicate (4 - (lg_sl ([.ref t, .ref u])).length) Slot.unset).toArray = ls at hl ⊢
  have hl : lv_has ls 4 [(0, .ref t), (1, .ref u)] := hl
  have hf15 := hts (Cond.fieldLink RX9 15 "RunmergeOffice$Tape" "size" "I") (by decide +kernel)
  have hiX9 : ∀ w ∈ u_ws RX9 TX9 2, w ∈ wsX9_takeOver := by decide +kernel
  have hmmin28_0 := hts (Cond.methodLink RX9 28 Lib.Math.min.name) (by decide +kernel)
  have hmmin28_1 := hts (Cond.static Lib.Math.min.name) (by decide +kernel)
  have hmmin28_2 := hts (Cond.initialized "java/lang/Math") (by decide +kernel)
  have hmmin28_3 := hts (Cond.code Lib.Math.min.name Lib.Math.min.code 2 (some .int)) (by decide +kernel)
  refine lv_aload_n hx hb dX9_takeOver_0 rfl (lv_at hl 1 rfl) ?_
  refine va_get (D := (dC, dI)) (ci := 11) (v := .int 0) (C := RX9) (T := TX9) (N := 2) hx hb hts hiX9 hown hK hP k1 w1 rfl 1 (by decide) hf15 (fun _ h9 => h9) rfl dX9_takeOver_1 ?_
  refine lv_bipush (v := 100) hx hb dX9_takeOver_4 (by decide) ?_
  refine va_mmin hx hb (hml.trans hl.1.symm) hown hmmin28_0 hmmin28_1 hmmin28_2 hmmin28_3 (Nat.le_of_ble_eq_true rfl) (Nat.le_of_ble_eq_true rfl) (Nat.le_of_ble_eq_true rfl) (Nat.le_of_ble_eq_true rfl) dX9_takeOver_6 ?_
  refine lv_topi (fun x_1 ex_1 => ?_)
  obtain rfl : x_1 = 0 := ex_1.trans (by decide)
  refine lv_istore_n (lv' := [(2, .int 0), (0, .ref t), (1, .ref u)]) hx hb dX9_takeOver_9 rfl hl (by decide) rfl (fun ls hl => ?_)
  refine lv_iconst (v := 0) hx hb dX9_takeOver_10 (by decide) ?_
  refine lv_istore_n (lv' := [(3, .int 0), (2, .int 0), (0, .ref t), (1, .ref u)]) hx hb dX9_takeOver_11 rfl hl (by decide) rfl (fun ls hl => ?_)
  refine lv_iload_n hx hb dX9_takeOver_12 rfl (lv_at hl 0 rfl) ?_
  refine lv_iload_n hx hb dX9_takeOver_13 rfl (lv_at hl 1 rfl) ?_
  refine lv_icmp_ge (tgt := 35) hx hb dX9_takeOver_14 (by decide) (fun c_2 => ?_) (fun c_2 => absurd (by decide) c_2)
  refine lv_aload_n hx hb dX9_takeOver_35 rfl (lv_at hl 2 rfl) ?_
  refine lv_iload_n hx hb dX9_takeOver_36 rfl (lv_at hl 1 rfl) ?_
  refine va_putS (D := (dC, dI)) (ci := 11) (v := .int 0) (ty := .int) (C := RX9) (T := TX9) (N := 2) hx hb hts hiX9 tyX9 tyX9_ok nmX9 hown hK hP hD hS k0 w0 rfl 1 (by decide) hf15 (fun _ h9 => h9) rfl (by decide +kernel) rfl rfl (Nat.le_of_ble_eq_true rfl) rfl dX9_takeOver_37 (fun H_3 L_4 hP hS => ?_)
  exact W.vret hx hb hr (fun t ht hW => ⟨⟨(), rfl, trivial, P_at ht hP⟩, hS.F ht⟩) hS.2.2 dX9_takeOver_40
set_option maxHeartbeats 4000000 in
set_option maxRecDepth 100000 in
theorem c_X9_reverse (l : Launch) (dC : Nat → ClassId) (dI : Nat → Nat → Nat) (g : Nat → ClassId) (Wd : va_W) (t : Nat) (h : Nat) (k0 : Nat) (w0 : Wd[k0]? = some (t, .inr (11, [.ref h, .int 0]))) (sz : Nat) : Met l yX9_reverse wsX9_reverse ({ frames := 1, cells := 0, slots := 0, locals := 13 }) (va_Pc [.ref t] (PG (dC, dI) g Wd sz)) (va_Qv (fun (_ : Unit) => True) (fun (_ : Unit) t => va_P (dC, dI) vwCl Wd t.heap) (va_A Wd sz)) 0 0 (va_A Wd sz) := by
  refine Met.ofW (cc := cX9_reverse) (maxL := 4) (ret := none) (by decide) rfl ?_
  intro p e s m args below meth c s₁ B hml hv
  obtain ⟨rfl, hsz, hP, hK, hD0, hG⟩ := hv
  have hx := B.exec
  have hb := B.bytes
  have hr := B.returns
  have hts := atoms_spec (ws := wsX9_reverse) B.pre
  have hown : s.vm.findClass RX9 = some m.cls := findClass_of_methodNamed B.named
  have hlocks := B.notSynchronized
  subst hsz
  have hD := hD0.self (sz := s.heap.size)
  generalize hAe : va_A Wd s.heap.size = A at hD hG ⊢
  have hA : ∀ q : Nat, s.heap.size ≤ q → A q := fun q h => by rw [← hAe]; exact Or.inr h
  have hS : va_S A s.heap s.heap [] := va_S.rf
  have hl := lv_entry ([.ref t]) (n := 4) (Nat.le_of_ble_eq_true rfl)
  rw [lg_entry_eq]
  generalize (lg_sl ([.ref t]) ++ List.replicate (4 - (lg_sl ([.ref t])).length) Slot.unset).toArray = ls at hl ⊢
  have hl : lv_has ls 4 [(0, .ref t)] := hl
  have hf15 := hts (Cond.fieldLink RX9 15 "RunmergeOffice$Tape" "size" "I") (by decide +kernel)
  have hiX9 : ∀ w ∈ u_ws RX9 TX9 2, w ∈ wsX9_reverse := by decide +kernel
  have hmmin28_0 := hts (Cond.methodLink RX9 28 Lib.Math.min.name) (by decide +kernel)
  have hmmin28_1 := hts (Cond.static Lib.Math.min.name) (by decide +kernel)
  have hmmin28_2 := hts (Cond.initialized "java/lang/Math") (by decide +kernel)
  have hmmin28_3 := hts (Cond.code Lib.Math.min.name Lib.Math.min.code 2 (some .int)) (by decide +kernel)
  refine lv_aload_n hx hb dX9_reverse_0 rfl (lv_at hl 0 rfl) ?_
  refine va_get (D := (dC, dI)) (ci := 11) (v := .int 0) (C := RX9) (T := TX9) (N := 2) hx hb hts hiX9 hown hK hP k0 w0 rfl 1 (by decide) hf15 (fun _ h9 => h9) rfl dX9_reverse_1 ?_
  refine lv_bipush (v := 100) hx hb dX9_reverse_4 (by decide) ?_
  refine va_mmin hx hb (hml.trans hl.1.symm) hown hmmin28_0 hmmin28_1 hmmin28_2 hmmin28_3 (Nat.le_of_ble_eq_true rfl) (Nat.le_of_ble_eq_true rfl) (Nat.le_of_ble_eq_true rfl) (Nat.le_of_ble_eq_true rfl) dX9_reverse_6 ?_
  refine lv_topi (fun x_1 ex_1 => ?_)
  obtain rfl : x_1 = 0 := ex_1.trans (by decide)
  refine lv_istore_n (lv' := [(1, .int 0), (0, .ref t)]) hx hb dX9_reverse_9 rfl hl (by decide) rfl (fun ls hl => ?_)
  refine lv_iconst (v := 0) hx hb dX9_reverse_10 (by decide) ?_
  refine lv_istore_n (lv' := [(2, .int 0), (1, .int 0), (0, .ref t)]) hx hb dX9_reverse_11 rfl hl (by decide) rfl (fun ls hl => ?_)
  refine lv_iload_n hx hb dX9_reverse_12 rfl (lv_at hl 0 rfl) ?_
  refine lv_iload_n hx hb dX9_reverse_13 rfl (lv_at hl 1 rfl) ?_
  refine lv_iconst (v := 2) hx hb dX9_reverse_14 (by decide) ?_
  refine lv_idiv hx hb dX9_reverse_15 (by decide) ?_
  refine lv_topi (fun x_2 ex_2 => ?_)
  obtain rfl : x_2 = 0 := ex_2.trans (by decide)
  refine lv_icmp_ge (tgt := 59) hx hb dX9_reverse_16 (by decide) (fun c_3 => ?_) (fun c_3 => absurd (by decide) c_3)
  exact W.vret hx hb hr (fun t ht hW => ⟨⟨(), rfl, trivial, P_at ht hP⟩, hS.F ht⟩) hS.2.2 dX9_reverse_59
set_option maxHeartbeats 4000000 in
set_option maxRecDepth 100000 in
theorem c_X9_thinOut (l : Launch) (dC : Nat → ClassId) (dI : Nat → Nat → Nat) (g : Nat → ClassId) (Wd : va_W) (t : Nat) (h : Nat) (bk : Nat) (z : Int32) (k0 : Nat) (w0 : Wd[k0]? = some (t, .inr (11, [.ref h, .int 0]))) (sz : Nat) : Met l yX9_thinOut wsX9_thinOut ({ frames := 1, cells := 0, slots := 0, locals := 13 }) (va_Pc [.ref t, .ref bk, .int z] (PG (dC, dI) g Wd sz)) (va_Qi (fun (r : Int32) (_ : Unit) => r = 0) (fun (_ : Unit) t => va_P (dC, dI) vwCl Wd t.heap) (va_A Wd sz)) 0 0 (va_A Wd sz) := by
  refine Met.ofW (cc := cX9_thinOut) (maxL := 8) (ret := (some .int)) (by decide) rfl ?_
  intro p e s m args below meth c s₁ B hml hv
  obtain ⟨rfl, hsz, hP, hK, hD0, hG⟩ := hv
  have hx := B.exec
  have hb := B.bytes
  have hr := B.returns
  have hts := atoms_spec (ws := wsX9_thinOut) B.pre
  have hown : s.vm.findClass RX9 = some m.cls := findClass_of_methodNamed B.named
  have hlocks := B.notSynchronized
  subst hsz
  have hD := hD0.self (sz := s.heap.size)
  generalize hAe : va_A Wd s.heap.size = A at hD hG ⊢
  have hA : ∀ q : Nat, s.heap.size ≤ q → A q := fun q h => by rw [← hAe]; exact Or.inr h
  have hS : va_S A s.heap s.heap [] := va_S.rf
  have hl := lv_entry ([.ref t, .ref bk, .int z]) (n := 8) (Nat.le_of_ble_eq_true rfl)
  rw [lg_entry_eq]
  generalize (lg_sl ([.ref t, .ref bk, .int z]) ++ List.replicate (8 - (lg_sl ([.ref t, .ref bk, .int z])).length) Slot.unset).toArray = ls at hl ⊢
  have hl : lv_has ls 8 [(0, .ref t), (1, .ref bk), (2, .int z)] := hl
  have hf15 := hts (Cond.fieldLink RX9 15 "RunmergeOffice$Tape" "size" "I") (by decide +kernel)
  have hiX9 : ∀ w ∈ u_ws RX9 TX9 2, w ∈ wsX9_thinOut := by decide +kernel
  have hmmin28_0 := hts (Cond.methodLink RX9 28 Lib.Math.min.name) (by decide +kernel)
  have hmmin28_1 := hts (Cond.static Lib.Math.min.name) (by decide +kernel)
  have hmmin28_2 := hts (Cond.initialized "java/lang/Math") (by decide +kernel)
  have hmmin28_3 := hts (Cond.code Lib.Math.min.name Lib.Math.min.code 2 (some .int)) (by decide +kernel)
  refine lv_aload_n hx hb dX9_thinOut_0 rfl (lv_at hl 0 rfl) ?_
  refine va_get (D := (dC, dI)) (ci := 11) (v := .int 0) (C := RX9) (T := TX9) (N := 2) hx hb hts hiX9 hown hK hP k0 w0 rfl 1 (by decide) hf15 (fun _ h9 => h9) rfl dX9_thinOut_1 ?_
  refine lv_bipush (v := 100) hx hb dX9_thinOut_4 (by decide) ?_
  refine va_mmin hx hb (hml.trans hl.1.symm) hown hmmin28_0 hmmin28_1 hmmin28_2 hmmin28_3 (Nat.le_of_ble_eq_true rfl) (Nat.le_of_ble_eq_true rfl) (Nat.le_of_ble_eq_true rfl) (Nat.le_of_ble_eq_true rfl) dX9_thinOut_6 ?_
  refine lv_topi (fun x_1 ex_1 => ?_)
  obtain rfl : x_1 = 0 := ex_1.trans (by decide)
  refine lv_istore_n (lv' := [(3, .int 0), (0, .ref t), (1, .ref bk), (2, .int z)]) hx hb dX9_thinOut_9 rfl hl (by decide) rfl (fun ls hl => ?_)
  refine lv_iconst (v := 0) hx hb dX9_thinOut_10 (by decide) ?_
  refine lv_istore (lv' := [(4, .int 0), (3, .int 0), (0, .ref t), (1, .ref bk), (2, .int z)]) hx hb dX9_thinOut_11 hl (by decide) rfl (fun ls hl => ?_)
  refine lv_iconst (v := 0) hx hb dX9_thinOut_13 (by decide) ?_
  refine lv_istore (lv' := [(5, .int 0), (4, .int 0), (3, .int 0), (0, .ref t), (1, .ref bk), (2, .int z)]) hx hb dX9_thinOut_14 hl (by decide) rfl (fun ls hl => ?_)
  refine lv_iload hx hb dX9_thinOut_16 (lv_at hl 0 rfl) ?_
  refine lv_iload_n hx hb dX9_thinOut_18 rfl (lv_at hl 2 rfl) ?_
  refine lv_icmp_ge (tgt := 109) hx hb dX9_thinOut_19 (by decide) (fun c_2 => ?_) (fun c_2 => absurd (by decide) c_2)
  refine lv_aload_n hx hb dX9_thinOut_109 rfl (lv_at hl 3 rfl) ?_
  refine lv_iload hx hb dX9_thinOut_110 (lv_at hl 1 rfl) ?_
  refine va_putS (D := (dC, dI)) (ci := 11) (v := .int 0) (ty := .int) (C := RX9) (T := TX9) (N := 2) hx hb hts hiX9 tyX9 tyX9_ok nmX9 hown hK hP hD hS k0 w0 rfl 1 (by decide) hf15 (fun _ h9 => h9) rfl (by decide +kernel) rfl rfl (Nat.le_of_ble_eq_true rfl) rfl dX9_thinOut_112 (fun H_3 L_4 hP hS => ?_)
  refine lv_iload_n hx hb dX9_thinOut_115 rfl (lv_at hl 2 rfl) ?_
  refine lv_iload hx hb dX9_thinOut_116 (lv_at hl 1 rfl) ?_
  refine lv_isub hx hb dX9_thinOut_118 ?_
  refine lv_topi (fun x_5 ex_5 => ?_)
  obtain rfl : x_5 = 0 := ex_5.trans (by decide)
  exact W.iret (v := 0) hx hb hr (fun t ht hW => ⟨⟨0, (), rfl, rfl, P_at ht hP⟩, hS.F ht⟩) hS.2.2 dX9_thinOut_119
set_option maxHeartbeats 4000000 in
set_option maxRecDepth 100000 in
theorem c_X9_countBelow (l : Launch) (dC : Nat → ClassId) (dI : Nat → Nat → Nat) (g : Nat → ClassId) (Wd : va_W) (t : Nat) (h : Nat) (bk : Nat) (k : Int32) (k0 : Nat) (w0 : Wd[k0]? = some (t, .inr (11, [.ref h, .int 0]))) (sz : Nat) : Met l yX9_countBelow wsX9_countBelow ({ frames := 0, cells := 0, slots := 0, locals := 0 }) (va_Pc [.ref t, .ref bk, .int k] (PG (dC, dI) g Wd sz)) (va_Qi (fun (r : Int32) (_ : Unit) => r = 0) (fun (_ : Unit) t => va_P (dC, dI) vwCl Wd t.heap) (va_A Wd sz)) 0 0 (va_A Wd sz) := by
  refine Met.ofW (cc := cX9_countBelow) (maxL := 5) (ret := (some .int)) (by decide) rfl ?_
  intro p e s m args below meth c s₁ B hml hv
  obtain ⟨rfl, hsz, hP, hK, hD0, hG⟩ := hv
  have hx := B.exec
  have hb := B.bytes
  have hr := B.returns
  have hts := atoms_spec (ws := wsX9_countBelow) B.pre
  have hown : s.vm.findClass RX9 = some m.cls := findClass_of_methodNamed B.named
  have hlocks := B.notSynchronized
  subst hsz
  have hD := hD0.self (sz := s.heap.size)
  generalize hAe : va_A Wd s.heap.size = A at hD hG ⊢
  have hA : ∀ q : Nat, s.heap.size ≤ q → A q := fun q h => by rw [← hAe]; exact Or.inr h
  have hS : va_S A s.heap s.heap [] := va_S.rf
  have hl := lv_entry ([.ref t, .ref bk, .int k]) (n := 5) (Nat.le_of_ble_eq_true rfl)
  rw [lg_entry_eq]
  generalize (lg_sl ([.ref t, .ref bk, .int k]) ++ List.replicate (5 - (lg_sl ([.ref t, .ref bk, .int k])).length) Slot.unset).toArray = ls at hl ⊢
  have hl : lv_has ls 5 [(0, .ref t), (1, .ref bk), (2, .int k)] := hl
  have hf15 := hts (Cond.fieldLink RX9 15 "RunmergeOffice$Tape" "size" "I") (by decide +kernel)
  have hiX9 : ∀ w ∈ u_ws RX9 TX9 2, w ∈ wsX9_countBelow := by decide +kernel
  refine lv_iconst (v := 0) hx hb dX9_countBelow_0 (by decide) ?_
  refine lv_istore_n (lv' := [(3, .int 0), (0, .ref t), (1, .ref bk), (2, .int k)]) hx hb dX9_countBelow_1 rfl hl (by decide) rfl (fun ls hl => ?_)
  refine lv_iconst (v := 0) hx hb dX9_countBelow_2 (by decide) ?_
  refine lv_istore (lv' := [(4, .int 0), (3, .int 0), (0, .ref t), (1, .ref bk), (2, .int k)]) hx hb dX9_countBelow_3 hl (by decide) rfl (fun ls hl => ?_)
  refine lv_iload hx hb dX9_countBelow_5 (lv_at hl 0 rfl) ?_
  refine lv_aload_n hx hb dX9_countBelow_7 rfl (lv_at hl 2 rfl) ?_
  refine va_get (D := (dC, dI)) (ci := 11) (v := .int 0) (C := RX9) (T := TX9) (N := 2) hx hb hts hiX9 hown hK hP k0 w0 rfl 1 (by decide) hf15 (fun _ h9 => h9) rfl dX9_countBelow_8 ?_
  refine lv_icmp_ge (tgt := 39) hx hb dX9_countBelow_11 (by decide) (fun c_1 => ?_) (fun c_1 => absurd (by decide) c_1)
  refine lv_iload_n hx hb dX9_countBelow_39 rfl (lv_at hl 1 rfl) ?_
  exact W.iret (v := 0) hx hb hr (fun t ht hW => ⟨⟨0, (), rfl, rfl, P_at ht hP⟩, hS.F ht⟩) hS.2.2 dX9_countBelow_40
set_option maxHeartbeats 4000000 in
set_option maxRecDepth 100000 in
theorem c_X9_countUpTo (l : Launch) (dC : Nat → ClassId) (dI : Nat → Nat → Nat) (g : Nat → ClassId) (Wd : va_W) (t : Nat) (h : Nat) (bk : Nat) (k : Int32) (k0 : Nat) (w0 : Wd[k0]? = some (t, .inr (11, [.ref h, .int 0]))) (sz : Nat) : Met l yX9_countUpTo wsX9_countUpTo ({ frames := 0, cells := 0, slots := 0, locals := 0 }) (va_Pc [.ref t, .ref bk, .int k] (PG (dC, dI) g Wd sz)) (va_Qi (fun (r : Int32) (_ : Unit) => r = 0) (fun (_ : Unit) t => va_P (dC, dI) vwCl Wd t.heap) (va_A Wd sz)) 0 0 (va_A Wd sz) := by
  refine Met.ofW (cc := cX9_countUpTo) (maxL := 5) (ret := (some .int)) (by decide) rfl ?_
  intro p e s m args below meth c s₁ B hml hv
  obtain ⟨rfl, hsz, hP, hK, hD0, hG⟩ := hv
  have hx := B.exec
  have hb := B.bytes
  have hr := B.returns
  have hts := atoms_spec (ws := wsX9_countUpTo) B.pre
  have hown : s.vm.findClass RX9 = some m.cls := findClass_of_methodNamed B.named
  have hlocks := B.notSynchronized
  subst hsz
  have hD := hD0.self (sz := s.heap.size)
  generalize hAe : va_A Wd s.heap.size = A at hD hG ⊢
  have hA : ∀ q : Nat, s.heap.size ≤ q → A q := fun q h => by rw [← hAe]; exact Or.inr h
  have hS : va_S A s.heap s.heap [] := va_S.rf
  have hl := lv_entry ([.ref t, .ref bk, .int k]) (n := 5) (Nat.le_of_ble_eq_true rfl)
  rw [lg_entry_eq]
  generalize (lg_sl ([.ref t, .ref bk, .int k]) ++ List.replicate (5 - (lg_sl ([.ref t, .ref bk, .int k])).length) Slot.unset).toArray = ls at hl ⊢
  have hl : lv_has ls 5 [(0, .ref t), (1, .ref bk), (2, .int k)] := hl
  have hf15 := hts (Cond.fieldLink RX9 15 "RunmergeOffice$Tape" "size" "I") (by decide +kernel)
  have hiX9 : ∀ w ∈ u_ws RX9 TX9 2, w ∈ wsX9_countUpTo := by decide +kernel
  refine lv_iconst (v := 0) hx hb dX9_countUpTo_0 (by decide) ?_
  refine lv_istore_n (lv' := [(3, .int 0), (0, .ref t), (1, .ref bk), (2, .int k)]) hx hb dX9_countUpTo_1 rfl hl (by decide) rfl (fun ls hl => ?_)
  refine lv_iconst (v := 0) hx hb dX9_countUpTo_2 (by decide) ?_
  refine lv_istore (lv' := [(4, .int 0), (3, .int 0), (0, .ref t), (1, .ref bk), (2, .int k)]) hx hb dX9_countUpTo_3 hl (by decide) rfl (fun ls hl => ?_)
  refine lv_iload hx hb dX9_countUpTo_5 (lv_at hl 0 rfl) ?_
  refine lv_aload_n hx hb dX9_countUpTo_7 rfl (lv_at hl 2 rfl) ?_
  refine va_get (D := (dC, dI)) (ci := 11) (v := .int 0) (C := RX9) (T := TX9) (N := 2) hx hb hts hiX9 hown hK hP k0 w0 rfl 1 (by decide) hf15 (fun _ h9 => h9) rfl dX9_countUpTo_8 ?_
  refine lv_icmp_ge (tgt := 39) hx hb dX9_countUpTo_11 (by decide) (fun c_1 => ?_) (fun c_1 => absurd (by decide) c_1)
  refine lv_iload_n hx hb dX9_countUpTo_39 rfl (lv_at hl 1 rfl) ?_
  exact W.iret (v := 0) hx hb hr (fun t ht hW => ⟨⟨0, (), rfl, rfl, P_at ht hP⟩, hS.F ht⟩) hS.2.2 dX9_countUpTo_40
set_option maxHeartbeats 4000000 in
set_option maxRecDepth 100000 in
theorem c_X9_unite (l : Launch) (dC : Nat → ClassId) (dI : Nat → Nat → Nat) (g : Nat → ClassId) (Wd : va_W) (t : Nat) (bk : Nat) (u : Nat) (hu : Nat) (v : Nat) (hv : Nat) (k0 : Nat) (w0 : Wd[k0]? = some (u, .inr (11, [.ref hu, .int 0]))) (k1 : Nat) (w1 : Wd[k1]? = some (v, .inr (11, [.ref hv, .int 0]))) (sz : Nat) : Met l yX9_unite wsX9_unite ({ frames := 0, cells := 0, slots := 0, locals := 0 }) (va_Pc [.ref t, .ref bk, .ref u, .ref v] (PG (dC, dI) g Wd sz)) (va_Qv (fun (_ : Unit) => True) (fun (_ : Unit) t => va_P (dC, dI) vwCl Wd t.heap) (va_A Wd sz)) 0 0 (va_A Wd sz) := by
  refine Met.ofW (cc := cX9_unite) (maxL := 11) (ret := none) (by decide) rfl ?_
  intro p e s m args below meth c s₁ B hml hv
  obtain ⟨rfl, hsz, hP, hK, hD0, hG⟩ := hv
  have hx := B.exec
  have hb := B.bytes
  have hr := B.returns
  have hts := atoms_spec (ws := wsX9_unite) B.pre
  have hown : s.vm.findClass RX9 = some m.cls := findClass_of_methodNamed B.named
  have hlocks := B.notSynchronized
  subst hsz
  have hD := hD0.self (sz := s.heap.size)
  generalize hAe : va_A Wd s.heap.size = A at hD hG ⊢
  have hA : ∀ q : Nat, s.heap.size ≤ q → A q := fun q h => by rw [← hAe]; exact Or.inr h
  have hS : va_S A s.heap s.heap [] := va_S.rf
  have hl := lv_entry ([.ref t, .ref bk, .ref u, .ref v]) (n := 11) (Nat.le_of_ble_eq_true rfl)
  rw [lg_entry_eq]
  generalize (lg_sl ([.ref t, .ref bk, .ref u, .ref v]) ++ List.replicate (11 - (lg_sl ([.ref t, .ref bk, .ref u, .ref v])).length) Slot.unset).toArray = ls at hl ⊢
  have hl : lv_has ls 11 [(0, .ref t), (1, .ref bk), (2, .ref u), (3, .ref v)] := hl
  have hf15 := hts (Cond.fieldLink RX9 15 "RunmergeOffice$Tape" "size" "I") (by decide +kernel)
  have hiX9 : ∀ w ∈ u_ws RX9 TX9 2, w ∈ wsX9_unite := by decide +kernel
  refine lv_iconst (v := 0) hx hb dX9_unite_0 (by decide) ?_
  refine lv_istore (lv' := [(4, .int 0), (0, .ref t), (1, .ref bk), (2, .ref u), (3, .ref v)]) hx hb dX9_unite_1 hl (by decide) rfl (fun ls hl => ?_)
  refine lv_iconst (v := 0) hx hb dX9_unite_3 (by decide) ?_
  refine lv_istore (lv' := [(5, .int 0), (4, .int 0), (0, .ref t), (1, .ref bk), (2, .ref u), (3, .ref v)]) hx hb dX9_unite_4 hl (by decide) rfl (fun ls hl => ?_)
  refine lv_aload_n hx hb dX9_unite_6 rfl (lv_at hl 4 rfl) ?_
  refine va_get (D := (dC, dI)) (ci := 11) (v := .int 0) (C := RX9) (T := TX9) (N := 2) hx hb hts hiX9 hown hK hP k0 w0 rfl 1 (by decide) hf15 (fun _ h9 => h9) rfl dX9_unite_7 ?_
  refine lv_aload_n hx hb dX9_unite_10 rfl (lv_at hl 5 rfl) ?_
  refine va_get (D := (dC, dI)) (ci := 11) (v := .int 0) (C := RX9) (T := TX9) (N := 2) hx hb hts hiX9 hown hK hP k1 w1 rfl 1 (by decide) hf15 (fun _ h9 => h9) rfl dX9_unite_11 ?_
  refine lv_iadd hx hb dX9_unite_14 ?_
  refine lv_topi (fun x_1 ex_1 => ?_)
  obtain rfl : x_1 = 0 := ex_1.trans (by decide)
  refine lv_istore (lv' := [(6, .int 0), (5, .int 0), (4, .int 0), (0, .ref t), (1, .ref bk), (2, .ref u), (3, .ref v)]) hx hb dX9_unite_15 hl (by decide) rfl (fun ls hl => ?_)
  refine lv_iconst (v := 0) hx hb dX9_unite_17 (by decide) ?_
  refine lv_istore (lv' := [(7, .int 0), (6, .int 0), (5, .int 0), (4, .int 0), (0, .ref t), (1, .ref bk), (2, .ref u), (3, .ref v)]) hx hb dX9_unite_18 hl (by decide) rfl (fun ls hl => ?_)
  refine lv_iload hx hb dX9_unite_20 (lv_at hl 0 rfl) ?_
  refine lv_iload hx hb dX9_unite_22 (lv_at hl 1 rfl) ?_
  refine lv_icmp_ge (tgt := 137) hx hb dX9_unite_24 (by decide) (fun c_2 => ?_) (fun c_2 => absurd (by decide) c_2)
  exact W.vret hx hb hr (fun t ht hW => ⟨⟨(), rfl, trivial, P_at ht hP⟩, hS.F ht⟩) hS.2.2 dX9_unite_137
set_option maxHeartbeats 4000000 in
set_option maxRecDepth 100000 in
theorem c_X9_pick (l : Launch) (dC : Nat → ClassId) (dI : Nat → Nat → Nat) (g : Nat → ClassId) (Wd : va_W) (t : Nat) (bk : Nat) (u : Nat) (hu : Nat) (v : Nat) (z : Int32) (k0 : Nat) (w0 : Wd[k0]? = some (u, .inr (11, [.ref hu, .int 0]))) (sz : Nat) : Met l yX9_pick wsX9_pick ({ frames := 0, cells := 0, slots := 0, locals := 0 }) (va_Pc [.ref t, .ref bk, .ref u, .ref v, .int z] (PG (dC, dI) g Wd sz)) (va_Qv (fun (_ : Unit) => True) (fun (_ : Unit) t => va_P (dC, dI) vwCl Wd t.heap) (va_A Wd sz)) 0 0 (va_A Wd sz) := by
  refine Met.ofW (cc := cX9_pick) (maxL := 6) (ret := none) (by decide) rfl ?_
  intro p e s m args below meth c s₁ B hml hv
  obtain ⟨rfl, hsz, hP, hK, hD0, hG⟩ := hv
  have hx := B.exec
  have hb := B.bytes
  have hr := B.returns
  have hts := atoms_spec (ws := wsX9_pick) B.pre
  have hown : s.vm.findClass RX9 = some m.cls := findClass_of_methodNamed B.named
  have hlocks := B.notSynchronized
  subst hsz
  have hD := hD0.self (sz := s.heap.size)
  generalize hAe : va_A Wd s.heap.size = A at hD hG ⊢
  have hA : ∀ q : Nat, s.heap.size ≤ q → A q := fun q h => by rw [← hAe]; exact Or.inr h
  have hS : va_S A s.heap s.heap [] := va_S.rf
  have hl := lv_entry ([.ref t, .ref bk, .ref u, .ref v, .int z]) (n := 6) (Nat.le_of_ble_eq_true rfl)
  rw [lg_entry_eq]
  generalize (lg_sl ([.ref t, .ref bk, .ref u, .ref v, .int z]) ++ List.replicate (6 - (lg_sl ([.ref t, .ref bk, .ref u, .ref v, .int z])).length) Slot.unset).toArray = ls at hl ⊢
  have hl : lv_has ls 6 [(0, .ref t), (1, .ref bk), (2, .ref u), (3, .ref v), (4, .int z)] := hl
  have hf15 := hts (Cond.fieldLink RX9 15 "RunmergeOffice$Tape" "size" "I") (by decide +kernel)
  have hiX9 : ∀ w ∈ u_ws RX9 TX9 2, w ∈ wsX9_pick := by decide +kernel
  refine lv_iconst (v := 0) hx hb dX9_pick_0 (by decide) ?_
  refine lv_istore (lv' := [(5, .int 0), (0, .ref t), (1, .ref bk), (2, .ref u), (3, .ref v), (4, .int z)]) hx hb dX9_pick_1 hl (by decide) rfl (fun ls hl => ?_)
  refine lv_iload hx hb dX9_pick_3 (lv_at hl 0 rfl) ?_
  refine lv_aload_n hx hb dX9_pick_5 rfl (lv_at hl 3 rfl) ?_
  refine va_get (D := (dC, dI)) (ci := 11) (v := .int 0) (C := RX9) (T := TX9) (N := 2) hx hb hts hiX9 hown hK hP k0 w0 rfl 1 (by decide) hf15 (fun _ h9 => h9) rfl dX9_pick_6 ?_
  refine lv_icmp_ge (tgt := 45) hx hb dX9_pick_9 (by decide) (fun c_1 => ?_) (fun c_1 => absurd (by decide) c_1)
  exact W.vret hx hb hr (fun t ht hW => ⟨⟨(), rfl, trivial, P_at ht hP⟩, hS.F ht⟩) hS.2.2 dX9_pick_45
