theorem dX4_takeLengths_0 : decode cX4_takeLengths 0 = .ok (.aload_n 0, 1) := by decide +kernel
theorem dX4_takeLengths_1 : decode cX4_takeLengths 1 = .ok (.iload_n 2, 1) := by decide +kernel
theorem dX4_takeLengths_2 : decode cX4_takeLengths 2 = .ok (.sipush 200, 3) := by decide +kernel
theorem dX4_takeLengths_5 : decode cX4_takeLengths 5 = .ok (.invokestatic 55, 3) := by decide +kernel
theorem dX4_takeLengths_8 : decode cX4_takeLengths 8 = .ok (.putfield 25, 3) := by decide +kernel
theorem dX4_takeLengths_11 : decode cX4_takeLengths 11 = .ok (.iconst 0, 1) := by decide +kernel
theorem dX4_takeLengths_12 : decode cX4_takeLengths 12 = .ok (.istore_n 3, 1) := by decide +kernel
theorem dX4_takeLengths_13 : decode cX4_takeLengths 13 = .ok (.iload_n 3, 1) := by decide +kernel
theorem dX4_takeLengths_14 : decode cX4_takeLengths 14 = .ok (.aload_n 0, 1) := by decide +kernel
theorem dX4_takeLengths_15 : decode cX4_takeLengths 15 = .ok (.getfield 25, 3) := by decide +kernel
theorem dX4_takeLengths_18 : decode cX4_takeLengths 18 = .ok (.if_icmp .ge 20, 3) := by decide +kernel
theorem dX4_takeLengths_38 : decode cX4_takeLengths 38 = .ok (.return_, 1) := by decide +kernel
theorem dX4_tell_0 : decode cX4_tell 0 = .ok (.aload_n 0, 1) := by decide +kernel
theorem dX4_tell_1 : decode cX4_tell 1 = .ok (.aload_n 1, 1) := by decide +kernel
theorem dX4_tell_2 : decode cX4_tell 2 = .ok (.aload_n 0, 1) := by decide +kernel
theorem dX4_tell_3 : decode cX4_tell 3 = .ok (.getfield 12, 3) := by decide +kernel
theorem dX4_tell_6 : decode cX4_tell 6 = .ok (.aload_n 2, 1) := by decide +kernel
theorem dX4_tell_7 : decode cX4_tell 7 = .ok (.aload_n 1, 1) := by decide +kernel
theorem dX4_tell_8 : decode cX4_tell 8 = .ok (.getfield 41, 3) := by decide +kernel
set_option maxRecDepth 20000 in
theorem ggX4_tell_X3_arrange : GoodIn wsX4_tell wsX3_arrange := goodIn_r _ [10, 11, 12, 13, 14, 15, 16, 17, 18, 19, 20, 21, 22, 23, 24, 25, 9, 26, 101, 102, 103, 104, 105, 106, 107, 108, 109, 110, 111] (by decide +kernel) (by decide +kernel)
set_option maxRecDepth 20000 in
theorem gX4_tell_X3_arrange : GoodIn wsX4_tell (wsV RX4 44 RX3 yX3_arrange wsX3_arrange) := goodIn_app (goodIn_of _ (by decide +kernel)) ggX4_tell_X3_arrange
theorem dX4_tell_11 : decode cX4_tell 11 = .ok (.invokevirtual 44, 3) := by decide +kernel
set_option maxRecDepth 20000 in
theorem ggX4_tell_X4_takeLengths : GoodIn wsX4_tell wsX4_takeLengths := goodIn_r _ [31, 32, 13, 14, 15, 5, 33, 34, 35, 36, 37, 38, 39, 40, 88, 89, 90, 91, 92, 93, 94, 95, 96, 97, 98, 99, 100] (by decide +kernel) (by decide +kernel)
set_option maxRecDepth 20000 in
theorem gX4_tell_X4_takeLengths : GoodIn wsX4_tell (wsV RX4 48 RX4 yX4_takeLengths wsX4_takeLengths) := goodIn_app (goodIn_of _ (by decide +kernel)) ggX4_tell_X4_takeLengths
theorem dX4_tell_14 : decode cX4_tell 14 = .ok (.invokevirtual 48, 3) := by decide +kernel
theorem dX4_tell_17 : decode cX4_tell 17 = .ok (.aload_n 0, 1) := by decide +kernel
theorem dX4_tell_18 : decode cX4_tell 18 = .ok (.iconst 0, 1) := by decide +kernel
theorem dX4_tell_19 : decode cX4_tell 19 = .ok (.putfield 32, 3) := by decide +kernel
theorem dX4_tell_22 : decode cX4_tell 22 = .ok (.aload_n 0, 1) := by decide +kernel
theorem dX4_tell_23 : decode cX4_tell 23 = .ok (.iconst 0, 1) := by decide +kernel
theorem dX4_tell_24 : decode cX4_tell 24 = .ok (.putfield 35, 3) := by decide +kernel
theorem dX4_tell_27 : decode cX4_tell 27 = .ok (.aload_n 0, 1) := by decide +kernel
theorem dX4_tell_28 : decode cX4_tell 28 = .ok (.iconst 0, 1) := by decide +kernel
theorem dX4_tell_29 : decode cX4_tell 29 = .ok (.putfield 38, 3) := by decide +kernel
theorem dX4_tell_32 : decode cX4_tell 32 = .ok (.aload_n 0, 1) := by decide +kernel
theorem dX4_tell_33 : decode cX4_tell 33 = .ok (.getfield 25, 3) := by decide +kernel
theorem dX4_tell_36 : decode cX4_tell 36 = .ok (.iconst 1, 1) := by decide +kernel
theorem dX4_tell_37 : decode cX4_tell 37 = .ok (.if_icmp .le 30, 3) := by decide +kernel
theorem dX4_tell_67 : decode cX4_tell 67 = .ok (.return_, 1) := by decide +kernel
theorem dX4_fewestMoves_0 : decode cX4_fewestMoves 0 = .ok (.aload_n 0, 1) := by decide +kernel
theorem dX4_fewestMoves_1 : decode cX4_fewestMoves 1 = .ok (.aload_n 1, 1) := by decide +kernel
theorem dX4_fewestMoves_2 : decode cX4_fewestMoves 2 = .ok (.aload_n 1, 1) := by decide +kernel
theorem dX4_fewestMoves_3 : decode cX4_fewestMoves 3 = .ok (.getfield 41, 3) := by decide +kernel
set_option maxRecDepth 20000 in
theorem ggX4_fewestMoves_X4_takeLengths : GoodIn wsX4_fewestMoves wsX4_takeLengths := goodIn_r _ [7, 8, 9, 10, 11, 1, 2, 12, 13, 14, 15, 16, 17, 18, 28, 29, 30, 31, 32, 33, 34, 35, 23, 24, 25, 26, 27] (by decide +kernel) (by decide +kernel)
set_option maxRecDepth 20000 in
theorem gX4_fewestMoves_X4_takeLengths : GoodIn wsX4_fewestMoves (wsV RX4 48 RX4 yX4_takeLengths wsX4_takeLengths) := goodIn_app (goodIn_of _ (by decide +kernel)) ggX4_fewestMoves_X4_takeLengths
theorem dX4_fewestMoves_6 : decode cX4_fewestMoves 6 = .ok (.invokevirtual 48, 3) := by decide +kernel
theorem dX4_fewestMoves_9 : decode cX4_fewestMoves 9 = .ok (.iconst 0, 1) := by decide +kernel
theorem dX4_fewestMoves_10 : decode cX4_fewestMoves 10 = .ok (.istore_n 2, 1) := by decide +kernel
theorem dX4_fewestMoves_11 : decode cX4_fewestMoves 11 = .ok (.aload_n 0, 1) := by decide +kernel
theorem dX4_fewestMoves_12 : decode cX4_fewestMoves 12 = .ok (.getfield 25, 3) := by decide +kernel
theorem dX4_fewestMoves_15 : decode cX4_fewestMoves 15 = .ok (.istore_n 3, 1) := by decide +kernel
theorem dX4_fewestMoves_16 : decode cX4_fewestMoves 16 = .ok (.iload_n 3, 1) := by decide +kernel
theorem dX4_fewestMoves_17 : decode cX4_fewestMoves 17 = .ok (.iconst 1, 1) := by decide +kernel
theorem dX4_fewestMoves_18 : decode cX4_fewestMoves 18 = .ok (.if_icmp .le 48, 3) := by decide +kernel
theorem dX4_fewestMoves_66 : decode cX4_fewestMoves 66 = .ok (.iload_n 2, 1) := by decide +kernel
theorem dX4_fewestMoves_67 : decode cX4_fewestMoves 67 = .ok (.ireturn, 1) := by decide +kernel
theorem dX10_byteAt_0 : decode cX10_byteAt 0 = .ok (.iload_n 1, 1) := by decide +kernel
theorem dX10_byteAt_1 : decode cX10_byteAt 1 = .ok (.ifCond .lt 27, 3) := by decide +kernel
theorem dX10_byteAt_4 : decode cX10_byteAt 4 = .ok (.iload_n 1, 1) := by decide +kernel
theorem dX10_byteAt_5 : decode cX10_byteAt 5 = .ok (.aload_n 0, 1) := by decide +kernel
theorem dX10_byteAt_6 : decode cX10_byteAt 6 = .ok (.getfield 15, 3) := by decide +kernel
theorem dX10_byteAt_9 : decode cX10_byteAt 9 = .ok (.if_icmp .ge 19, 3) := by decide +kernel
theorem dX10_byteAt_28 : decode cX10_byteAt 28 = .ok (.iconst 0, 1) := by decide +kernel
theorem dX10_byteAt_29 : decode cX10_byteAt 29 = .ok (.ireturn, 1) := by decide +kernel
theorem dX10_empty_0 : decode cX10_empty 0 = .ok (.aload_n 0, 1) := by decide +kernel
theorem dX10_empty_1 : decode cX10_empty 1 = .ok (.iconst 0, 1) := by decide +kernel
theorem dX10_empty_2 : decode cX10_empty 2 = .ok (.putfield 15, 3) := by decide +kernel
theorem dX10_empty_5 : decode cX10_empty 5 = .ok (.return_, 1) := by decide +kernel
theorem dX5_kindOf_0 : decode cX5_kindOf 0 = .ok (.iload_n 0, 1) := by decide +kernel
theorem dX5_kindOf_1 : decode cX5_kindOf 1 = .ok (.ifCond .ne 5, 3) := by decide +kernel
theorem dX5_kindOf_4 : decode cX5_kindOf 4 = .ok (.iconst 0, 1) := by decide +kernel
theorem dX5_kindOf_5 : decode cX5_kindOf 5 = .ok (.ireturn, 1) := by decide +kernel
theorem dX5_restart_0 : decode cX5_restart 0 = .ok (.aload_n 0, 1) := by decide +kernel
theorem dX5_restart_1 : decode cX5_restart 1 = .ok (.iconst 0, 1) := by decide +kernel
theorem dX5_restart_2 : decode cX5_restart 2 = .ok (.putfield 36, 3) := by decide +kernel
theorem dX5_restart_5 : decode cX5_restart 5 = .ok (.aload_n 0, 1) := by decide +kernel
theorem dX5_restart_6 : decode cX5_restart 6 = .ok (.iconst 0, 1) := by decide +kernel
theorem dX5_restart_7 : decode cX5_restart 7 = .ok (.putfield 55, 3) := by decide +kernel
theorem dX5_restart_10 : decode cX5_restart 10 = .ok (.aload_n 0, 1) := by decide +kernel
theorem dX5_restart_11 : decode cX5_restart 11 = .ok (.iconst (-1), 1) := by decide +kernel
theorem dX5_restart_12 : decode cX5_restart 12 = .ok (.putfield 58, 3) := by decide +kernel
theorem dX5_restart_15 : decode cX5_restart 15 = .ok (.return_, 1) := by decide +kernel
theorem dX5_readWord_0 : decode cX5_readWord 0 = .ok (.aload_n 0, 1) := by decide +kernel
theorem dX5_readWord_1 : decode cX5_readWord 1 = .ok (.aload_n 0, 1) := by decide +kernel
theorem dX5_readWord_2 : decode cX5_readWord 2 = .ok (.getfield 36, 3) := by decide +kernel
theorem dX5_readWord_5 : decode cX5_readWord 5 = .ok (.putfield 33, 3) := by decide +kernel
theorem dX5_readWord_8 : decode cX5_readWord 8 = .ok (.aload_n 0, 1) := by decide +kernel
theorem dX5_readWord_9 : decode cX5_readWord 9 = .ok (.getfield 33, 3) := by decide +kernel
theorem dX5_readWord_12 : decode cX5_readWord 12 = .ok (.aload_n 0, 1) := by decide +kernel
theorem dX5_readWord_13 : decode cX5_readWord 13 = .ok (.getfield 12, 3) := by decide +kernel
theorem dX5_readWord_16 : decode cX5_readWord 16 = .ok (.getfield 166, 3) := by decide +kernel
theorem dX5_readWord_19 : decode cX5_readWord 19 = .ok (.if_icmp .ge 32, 3) := by decide +kernel
theorem dX5_readWord_51 : decode cX5_readWord 51 = .ok (.aload_n 0, 1) := by decide +kernel
theorem dX5_readWord_52 : decode cX5_readWord 52 = .ok (.aload_n 0, 1) := by decide +kernel
theorem dX5_readWord_53 : decode cX5_readWord 53 = .ok (.getfield 12, 3) := by decide +kernel
theorem dX5_readWord_56 : decode cX5_readWord 56 = .ok (.aload_n 0, 1) := by decide +kernel
theorem dX5_readWord_57 : decode cX5_readWord 57 = .ok (.getfield 33, 3) := by decide +kernel
set_option maxRecDepth 20000 in
theorem ggX5_readWord_X10_byteAt : GoodIn wsX5_readWord wsX10_byteAt := goodIn_r _ [9, 10, 11, 29, 30] (by decide +kernel) (by decide +kernel)
set_option maxRecDepth 20000 in
theorem gX5_readWord_X10_byteAt : GoodIn wsX5_readWord (wsV RX5 156 RX10 yX10_byteAt wsX10_byteAt) := goodIn_app (goodIn_of _ (by decide +kernel)) ggX5_readWord_X10_byteAt
theorem dX5_readWord_60 : decode cX5_readWord 60 = .ok (.invokevirtual 156, 3) := by decide +kernel
set_option maxRecDepth 20000 in
theorem ggX5_readWord_X5_kindOf : GoodIn wsX5_readWord wsX5_kindOf := goodIn_r _ [15] (by decide +kernel) (by decide +kernel)
set_option maxRecDepth 20000 in
theorem gX5_readWord_X5_kindOf : GoodIn wsX5_readWord (va_wsS RX5 169 yX5_kindOf wsX5_kindOf) := goodIn_app (goodIn_of _ (by decide +kernel)) ggX5_readWord_X5_kindOf
theorem dX5_readWord_63 : decode cX5_readWord 63 = .ok (.invokestatic 169, 3) := by decide +kernel
theorem dX5_readWord_66 : decode cX5_readWord 66 = .ok (.putfield 29, 3) := by decide +kernel
theorem dX5_readWord_69 : decode cX5_readWord 69 = .ok (.aload_n 0, 1) := by decide +kernel
theorem dX5_readWord_70 : decode cX5_readWord 70 = .ok (.aload_n 0, 1) := by decide +kernel
theorem dX5_readWord_71 : decode cX5_readWord 71 = .ok (.getfield 33, 3) := by decide +kernel
theorem dX5_readWord_74 : decode cX5_readWord 74 = .ok (.putfield 36, 3) := by decide +kernel
theorem dX5_readWord_77 : decode cX5_readWord 77 = .ok (.aload_n 0, 1) := by decide +kernel
theorem dX5_readWord_78 : decode cX5_readWord 78 = .ok (.getfield 29, 3) := by decide +kernel
theorem dX5_readWord_81 : decode cX5_readWord 81 = .ok (.iconst 1, 1) := by decide +kernel
theorem dX5_readWord_82 : decode cX5_readWord 82 = .ok (.if_icmp .eq 11, 3) := by decide +kernel
theorem dX5_readWord_85 : decode cX5_readWord 85 = .ok (.aload_n 0, 1) := by decide +kernel
theorem dX5_readWord_86 : decode cX5_readWord 86 = .ok (.getfield 29, 3) := by decide +kernel
theorem dX5_readWord_89 : decode cX5_readWord 89 = .ok (.iconst 2, 1) := by decide +kernel
theorem dX5_readWord_90 : decode cX5_readWord 90 = .ok (.if_icmp .ne 51, 3) := by decide +kernel
theorem dX5_readWord_141 : decode cX5_readWord 141 = .ok (.aload_n 0, 1) := by decide +kernel
theorem dX5_readWord_142 : decode cX5_readWord 142 = .ok (.getfield 29, 3) := by decide +kernel
theorem dX5_readWord_145 : decode cX5_readWord 145 = .ok (.ifCond .eq 13, 3) := by decide +kernel
theorem dX5_readWord_158 : decode cX5_readWord 158 = .ok (.return_, 1) := by decide +kernel
theorem dX5_readStatement_0 : decode cX5_readStatement 0 = .ok (.aload_n 0, 1) := by decide +kernel
set_option maxRecDepth 20000 in
theorem ggX5_readStatement_X5_readWord : GoodIn wsX5_readStatement wsX5_readWord := goodIn_r _ [10, 11, 2, 12, 1, 13, 14, 15, 16, 17, 18, 19, 20, 21, 9, 22, 136, 137, 138, 139, 140, 141, 142, 143, 144, 145, 146, 147, 148, 149, 150] (by decide +kernel) (by decide +kernel)
set_option maxRecDepth 20000 in
theorem gX5_readStatement_X5_readWord : GoodIn wsX5_readStatement (wsV RX5 61 RX5 yX5_readWord wsX5_readWord) := goodIn_app (goodIn_of _ (by decide +kernel)) ggX5_readStatement_X5_readWord
theorem dX5_readStatement_1 : decode cX5_readStatement 1 = .ok (.invokevirtual 61, 3) := by decide +kernel
theorem dX5_readStatement_4 : decode cX5_readStatement 4 = .ok (.aload_n 0, 1) := by decide +kernel
theorem dX5_readStatement_5 : decode cX5_readStatement 5 = .ok (.getfield 29, 3) := by decide +kernel
theorem dX5_readStatement_8 : decode cX5_readStatement 8 = .ok (.ifCond .ne 5, 3) := by decide +kernel
theorem dX5_readStatement_11 : decode cX5_readStatement 11 = .ok (.iconst 0, 1) := by decide +kernel
theorem dX5_readStatement_12 : decode cX5_readStatement 12 = .ok (.ireturn, 1) := by decide +kernel
set_option maxHeartbeats 4000000 in
set_option maxRecDepth 100000 in
theorem c_X4_takeLengths (l : Launch) (dC : Nat → ClassId) (dI : Nat → Nat → Nat) (g : Nat → ClassId) (Wd : va_W) (t : Nat) (pq : Nat) (a : Nat) (b : Nat) (r : Nat) (k0 : Nat) (w0 : Wd[k0]? = some (t, .inr (6, [.ref pq, .ref a, .ref b, .int 0, .int 0, .int 0, .int 0, .int 0]))) (sz : Nat) : Met l yX4_takeLengths wsX4_takeLengths ({ frames := 1, cells := 0, slots := 0, locals := 14 }) (va_Pc [.ref t, .ref r, .int 0] (PG (dC, dI) g Wd sz)) (va_Qv (fun (_ : Unit) => True) (fun (_ : Unit) t => va_P (dC, dI) vwCl Wd t.heap) (va_A Wd sz)) 0 0 (va_A Wd sz) := by
  refine Met.ofW (cc := cX4_takeLengths) (maxL := 4) (ret := none) (by decide) rfl ?_
  intro p e s m args below meth c s₁ B hml hv
  obtain ⟨rfl, hsz, hP, hK, hD0, hG⟩ := hv
  have hx := B.exec
  have hb := B.bytes
  have hr := B.returns
  have hts := atoms_spec (ws := wsX4_takeLengths) B.pre
  have hown : s.vm.findClass RX4 = some m.cls := findClass_of_methodNamed B.named
  have hlocks := B.notSynchronized
  subst hsz
  have hD := hD0.self (sz := s.heap.size)
  generalize hAe : va_A Wd s.heap.size = A at hD hG ⊢
  have hA : ∀ q : Nat, s.heap.size ≤ q → A q := fun q h => by rw [← hAe]; exact Or.inr h
  have hS : va_S A s.heap s.heap [] := va_S.rf
  have hl := lv_entry ([.ref t, .ref r, .int 0]) (n := 4) (Nat.le_of_ble_eq_true rfl)
  rw [lg_entry_eq]
  generalize (lg_sl ([.ref t, .ref r, .int 0]) ++ List.replicate (4 - (lg_sl ([.ref t, .ref r, .int 0])).length) Slot.unset).toArray = ls at hl ⊢
  have hl : lv_has ls 4 [(0, .ref t), (1, .ref r), (2, .int 0)] := hl
  have hmmin55_0 := hts (Cond.methodLink RX4 55 Lib.Math.min.name) (by decide +kernel)
  have hmmin55_1 := hts (Cond.static Lib.Math.min.name) (by decide +kernel)
  have hmmin55_2 := hts (Cond.initialized "java/lang/Math") (by decide +kernel)
  have hmmin55_3 := hts (Cond.code Lib.Math.min.name Lib.Math.min.code 2 (some .int)) (by decide +kernel)
  have hf25 := hts (Cond.fieldLink RX4 25 "RunmergeOffice$Plan" "count" "I") (by decide +kernel)
  have hiX4 : ∀ w ∈ u_ws RX4 TX4 8, w ∈ wsX4_takeLengths := by decide +kernel
  refine lv_aload_n hx hb dX4_takeLengths_0 rfl (lv_at hl 0 rfl) ?_
  refine lv_iload_n hx hb dX4_takeLengths_1 rfl (lv_at hl 2 rfl) ?_
  refine lv_sipush (v := 200) hx hb dX4_takeLengths_2 (by decide) ?_
  refine va_mmin hx hb (hml.trans hl.1.symm) hown hmmin55_0 hmmin55_1 hmmin55_2 hmmin55_3 (Nat.le_of_ble_eq_true rfl) (Nat.le_of_ble_eq_true rfl) (Nat.le_of_ble_eq_true rfl) (Nat.le_of_ble_eq_true rfl) dX4_takeLengths_5 ?_
  refine lv_topi (fun x_1 ex_1 => ?_)
  obtain rfl : x_1 = 0 := ex_1.trans (by decide)
  refine va_putS (D := (dC, dI)) (ci := 6) (v := .int 0) (ty := .int) (C := RX4) (T := TX4) (N := 8) hx hb hts hiX4 tyX4 tyX4_ok nmX4 hown hK hP hD hS k0 w0 rfl 3 (by decide) hf25 (fun _ h9 => h9) rfl (by decide +kernel) rfl rfl (Nat.le_of_ble_eq_true rfl) rfl dX4_takeLengths_8 (fun H_2 L_3 hP hS => ?_)
  refine lv_iconst (v := 0) hx hb dX4_takeLengths_11 (by decide) ?_
  refine lv_istore_n (lv' := [(3, .int 0), (0, .ref t), (1, .ref r), (2, .int 0)]) hx hb dX4_takeLengths_12 rfl hl (by decide) rfl (fun ls hl => ?_)
  refine lv_iload_n hx hb dX4_takeLengths_13 rfl (lv_at hl 0 rfl) ?_
  refine lv_aload_n hx hb dX4_takeLengths_14 rfl (lv_at hl 1 rfl) ?_
  refine va_get (D := (dC, dI)) (ci := 6) (v := .int 0) (C := RX4) (T := TX4) (N := 8) hx hb hts hiX4 hown hK hP k0 w0 rfl 3 (by decide) hf25 (fun _ h9 => h9) rfl dX4_takeLengths_15 ?_
  refine lv_icmp_ge (tgt := 38) hx hb dX4_takeLengths_18 (by decide) (fun c_4 => ?_) (fun c_4 => absurd (by decide) c_4)
  exact W.vret hx hb hr (fun t ht hW => ⟨⟨(), rfl, trivial, P_at ht hP⟩, hS.F ht⟩) hS.2.2 dX4_takeLengths_38
set_option maxHeartbeats 4000000 in
set_option maxRecDepth 100000 in
theorem c_X4_tell_0 (l : Launch) (dC : Nat → ClassId) (dI : Nat → Nat → Nat) (g : Nat → ClassId) (Wd : va_W) (t : Nat) (pq : Nat) (a : Nat) (b : Nat) (p1 : Nat) (p2 : Nat) (r : Nat) (ra : Nat) (rb : Nat) (rc : Nat) (w : Nat) (rw : Int32) (k0 : Nat) (w0 : Wd[k0]? = some (t, .inr (6, [.ref pq, .ref a, .ref b, .int 0, .int 0, .int 0, .int 0, .int 0]))) (k1 : Nat) (w1 : Wd[k1]? = some (pq, .inr (5, [.ref p1, .ref p2, .int 0, .int 2, .int 0, .int 0]))) (k2 : Nat) (w2 : Wd[k2]? = some (r, .inr (9, [.ref ra, .ref rb, .ref rc, .int 0, .int 0]))) (k3 : Nat) (w3 : Wd[k3]? = some (w, .inr (10, [.int 0, .int rw, .int 4, .int 0, .int 2]))) (sz : Nat) : Met l yX4_tell wsX4_tell ({ frames := 2, cells := 0, slots := 0, locals := 38 }) (va_Pc [.ref t, .ref r, .ref w] (PG (dC, dI) g Wd sz)) (va_Qv (fun (_ : Unit) => True) (fun (_ : Unit) t => va_P (dC, dI) vwCl Wd t.heap) (va_A Wd sz)) 0 0 (va_A Wd sz) := by
  refine Met.ofW (cc := cX4_tell) (maxL := 3) (ret := none) (by decide) rfl ?_
  intro p e s m args below meth c s₁ B hml hv
  obtain ⟨rfl, hsz, hP, hK, hD0, hG⟩ := hv
  have hx := B.exec
  have hb := B.bytes
  have hr := B.returns
  have hts := atoms_spec (ws := wsX4_tell) B.pre
  have hown : s.vm.findClass RX4 = some m.cls := findClass_of_methodNamed B.named
  have hlocks := B.notSynchronized
  subst hsz
  have hD := hD0.self (sz := s.heap.size)
  generalize hAe : va_A Wd s.heap.size = A at hD hG ⊢
  have hA : ∀ q : Nat, s.heap.size ≤ q → A q := fun q h => by rw [← hAe]; exact Or.inr h
  have hS : va_S A s.heap s.heap [] := va_S.rf
  have hl := lv_entry ([.ref t, .ref r, .ref w]) (n := 3) (Nat.le_of_ble_eq_true rfl)
  rw [lg_entry_eq]
  generalize (lg_sl ([.ref t, .ref r, .ref w]) ++ List.replicate (3 - (lg_sl ([.ref t, .ref r, .ref w])).length) Slot.unset).toArray = ls at hl ⊢
  have hl : lv_has ls 3 [(0, .ref t), (1, .ref r), (2, .ref w)] := hl
  have hf12 := hts (Cond.fieldLink RX4 12 "RunmergeOffice$Plan" "pass" "LRunmergeOffice$Pass;") (by decide +kernel)
  have hiX4 : ∀ w ∈ u_ws RX4 TX4 8, w ∈ wsX4_tell := by decide +kernel
  have hiX7 : ∀ w ∈ u_ws RX7 TX7 5, w ∈ wsX4_tell := by decide +kernel
  have hf32 := hts (Cond.fieldLink RX4 32 "RunmergeOffice$Plan" "passes" "I") (by decide +kernel)
  have hf35 := hts (Cond.fieldLink RX4 35 "RunmergeOffice$Plan" "moves" "I") (by decide +kernel)
  have hf38 := hts (Cond.fieldLink RX4 38 "RunmergeOffice$Plan" "merges" "I") (by decide +kernel)
  have hf25 := hts (Cond.fieldLink RX4 25 "RunmergeOffice$Plan" "count" "I") (by decide +kernel)
  refine lv_aload_n hx hb dX4_tell_0 rfl (lv_at hl 0 rfl) ?_
  refine lv_aload_n hx hb dX4_tell_1 rfl (lv_at hl 1 rfl) ?_
  refine lv_aload_n hx hb dX4_tell_2 rfl (lv_at hl 0 rfl) ?_
  refine va_get (D := (dC, dI)) (ci := 6) (v := .ref pq) (C := RX4) (T := TX4) (N := 8) hx hb hts hiX4 hown hK hP k0 w0 rfl 0 (by decide) hf12 (fun _ h9 => h9) rfl dX4_tell_3 ?_
  refine lv_aload_n hx hb dX4_tell_6 rfl (lv_at hl 2 rfl) ?_
  refine lv_aload_n hx hb dX4_tell_7 rfl (lv_at hl 1 rfl) ?_
  refine va_getN (D := (dC, dI)) (ci := 9) (v := .int 0) (C := RX7) (T := TX7) (N := 5) hx hb hts hiX7 hown hK hP k2 w2 rfl 3 (by decide) (nf_26 hG) (fun _ h9 => h9) rfl dX4_tell_8 ?_
  refine va_calli (va_runV (As := [.ref w, .int 0]) (rest := [.ref r, .ref t]) ⟨hx, hb, hml, hown, hts⟩ (c_X3_arrange_0 l dC dI g Wd pq p1 p2 w rw k1 w1 k3 w3  s.heap.size) (cwV 2 hts gX4_tell_X3_arrange rfl rfl rfl (by decide +kernel) ⟨Nat.le_of_ble_eq_true rfl, Nat.le_of_ble_eq_true rfl⟩) ⟨PG_blind, va_recv hK hP (ci := 5) (q0 := k1) rfl w1, PG_call hK hG hS hP hD (A_all hD hA hS.1)⟩ rfl rfl hl.1 rfl (lv_room (Nat.le_of_ble_eq_true rfl)) dX4_tell_11 ⟨Nat.le_of_ble_eq_true rfl, Nat.le_of_ble_eq_true rfl⟩) hS (fun q _ h => (A_all hD hA hS.1) q h) (A_all hD hA hS.1) (fun r_1 u_1 t_1 H_1 L_1 ht_1 hvm_1 hw_1 hB_1 hz_1 hk_1 hS => ?_)
  replace hB_1 := (show va_P (dC, dI) vwCl Wd t_1.heap from hB_1)
  rw [ht_1] at hB_1
  have hP := hB_1
  obtain rfl : r_1 = 0 := hw_1
  refine va_callv (va_runV (As := [.ref r, .int 0]) (rest := []) ⟨hx, hb, hml, hown, hts⟩ (c_X4_takeLengths l dC dI g Wd t pq a b r k0 w0  H_1.size) (cwV 2 hts gX4_tell_X4_takeLengths rfl rfl rfl (by decide +kernel) ⟨Nat.le_of_ble_eq_true rfl, Nat.le_of_ble_eq_true rfl⟩) ⟨PG_blind, va_recv hK hP (ci := 6) (q0 := k0) rfl w0, PG_call hK hG hS hP hD (A_all hD hA hS.1)⟩ rfl rfl hl.1 rfl (lv_room (Nat.le_of_ble_eq_true rfl)) dX4_tell_14 ⟨Nat.le_of_ble_eq_true rfl, Nat.le_of_ble_eq_true rfl⟩) hS (fun q _ h => (A_all hD hA hS.1) q h) (A_all hD hA hS.1) (fun u_2 t_2 H_2 L_2 ht_2 hvm_2 hw_2 hB_2 hz_2 hk_2 hS => ?_)
  replace hB_2 := (show va_P (dC, dI) vwCl Wd t_2.heap from hB_2)
  rw [ht_2] at hB_2
  have hP := hB_2
  refine lv_aload_n hx hb dX4_tell_17 rfl (lv_at hl 0 rfl) ?_
  refine lv_iconst (v := 0) hx hb dX4_tell_18 (by decide) ?_
  refine va_putS (D := (dC, dI)) (ci := 6) (v := .int 0) (ty := .int) (C := RX4) (T := TX4) (N := 8) hx hb hts hiX4 tyX4 tyX4_ok nmX4 hown hK hP hD hS k0 w0 rfl 5 (by decide) hf32 (fun _ h9 => h9) rfl (by decide +kernel) rfl rfl (Nat.le_of_ble_eq_true rfl) rfl dX4_tell_19 (fun H_3 L_4 hP hS => ?_)
  refine lv_aload_n hx hb dX4_tell_22 rfl (lv_at hl 0 rfl) ?_
  refine lv_iconst (v := 0) hx hb dX4_tell_23 (by decide) ?_
  refine va_putS (D := (dC, dI)) (ci := 6) (v := .int 0) (ty := .int) (C := RX4) (T := TX4) (N := 8) hx hb hts hiX4 tyX4 tyX4_ok nmX4 hown hK hP hD hS k0 w0 rfl 6 (by decide) hf35 (fun _ h9 => h9) rfl (by decide +kernel) rfl rfl (Nat.le_of_ble_eq_true rfl) rfl dX4_tell_24 (fun H_5 L_6 hP hS => ?_)
  refine lv_aload_n hx hb dX4_tell_27 rfl (lv_at hl 0 rfl) ?_
  refine lv_iconst (v := 0) hx hb dX4_tell_28 (by decide) ?_
  refine va_putS (D := (dC, dI)) (ci := 6) (v := .int 0) (ty := .int) (C := RX4) (T := TX4) (N := 8) hx hb hts hiX4 tyX4 tyX4_ok nmX4 hown hK hP hD hS k0 w0 rfl 7 (by decide) hf38 (fun _ h9 => h9) rfl (by decide +kernel) rfl rfl (Nat.le_of_ble_eq_true rfl) rfl dX4_tell_29 (fun H_7 L_8 hP hS => ?_)
  refine lv_aload_n hx hb dX4_tell_32 rfl (lv_at hl 0 rfl) ?_
  refine va_get (D := (dC, dI)) (ci := 6) (v := .int 0) (C := RX4) (T := TX4) (N := 8) hx hb hts hiX4 hown hK hP k0 w0 rfl 3 (by decide) hf25 (fun _ h9 => h9) rfl dX4_tell_33 ?_
  refine lv_iconst (v := 1) hx hb dX4_tell_36 (by decide) ?_
  refine lv_icmp_le (tgt := 67) hx hb dX4_tell_37 (by decide) (fun c_9 => ?_) (fun c_9 => absurd (by decide) c_9)
  exact W.vret hx hb hr (fun t ht hW => ⟨⟨(), rfl, trivial, P_at ht hP⟩, hS.F ht⟩) hS.2.2 dX4_tell_67
set_option maxHeartbeats 4000000 in
set_option maxRecDepth 100000 in
theorem c_X4_tell_1 (l : Launch) (dC : Nat → ClassId) (dI : Nat → Nat → Nat) (g : Nat → ClassId) (Wd : va_W) (t : Nat) (pq : Nat) (a : Nat) (b : Nat) (p1 : Nat) (p2 : Nat) (r : Nat) (ra : Nat) (rb : Nat) (rc : Nat) (w : Nat) (rw : Int32) (k0 : Nat) (w0 : Wd[k0]? = some (t, .inr (6, [.ref pq, .ref a, .ref b, .int 0, .int 0, .int 0, .int 0, .int 0]))) (k1 : Nat) (w1 : Wd[k1]? = some (pq, .inr (5, [.ref p1, .ref p2, .int 1, .int 2, .int 0, .int 0]))) (k2 : Nat) (w2 : Wd[k2]? = some (r, .inr (9, [.ref ra, .ref rb, .ref rc, .int 0, .int 0]))) (k3 : Nat) (w3 : Wd[k3]? = some (w, .inr (10, [.int 0, .int rw, .int 4, .int 1, .int 2]))) (sz : Nat) : Met l yX4_tell wsX4_tell ({ frames := 2, cells := 0, slots := 0, locals := 38 }) (va_Pc [.ref t, .ref r, .ref w] (PG (dC, dI) g Wd sz)) (va_Qv (fun (_ : Unit) => True) (fun (_ : Unit) t => va_P (dC, dI) vwCl Wd t.heap) (va_A Wd sz)) 0 0 (va_A Wd sz) := by
  refine Met.ofW (cc := cX4_tell) (maxL := 3) (ret := none) (by decide) rfl ?_
  intro p e s m args below meth c s₁ B hml hv
  obtain ⟨rfl, hsz, hP, hK, hD0, hG⟩ := hv
  have hx := B.exec
  have hb := B.bytes
  have hr := B.returns
  have hts := atoms_spec (ws := wsX4_tell) B.pre
  have hown : s.vm.findClass RX4 = some m.cls := findClass_of_methodNamed B.named
  have hlocks := B.notSynchronized
  subst hsz
  have hD := hD0.self (sz := s.heap.size)
  generalize hAe : va_A Wd s.heap.size = A at hD hG ⊢
  have hA : ∀ q : Nat, s.heap.size ≤ q → A q := fun q h => by rw [← hAe]; exact Or.inr h
  have hS : va_S A s.heap s.heap [] := va_S.rf
  have hl := lv_entry ([.ref t, .ref r, .ref w]) (n := 3) (Nat.le_of_ble_eq_true rfl)
  rw [lg_entry_eq]
  generalize (lg_sl ([.ref t, .ref r, .ref w]) ++ List.replicate (3 - (lg_sl ([.ref t, .ref r, .ref w])).length) Slot.unset).toArray = ls at hl ⊢
  have hl : lv_has ls 3 [(0, .ref t), (1, .ref r), (2, .ref w)] := hl
  have hf12 := hts (Cond.fieldLink RX4 12 "RunmergeOffice$Plan" "pass" "LRunmergeOffice$Pass;") (by decide +kernel)
  have hiX4 : ∀ w ∈ u_ws RX4 TX4 8, w ∈ wsX4_tell := by decide +kernel
  have hiX7 : ∀ w ∈ u_ws RX7 TX7 5, w ∈ wsX4_tell := by decide +kernel
  have hf32 := hts (Cond.fieldLink RX4 32 "RunmergeOffice$Plan" "passes" "I") (by decide +kernel)
  have hf35 := hts (Cond.fieldLink RX4 35 "RunmergeOffice$Plan" "moves" "I") (by decide +kernel)
  have hf38 := hts (Cond.fieldLink RX4 38 "RunmergeOffice$Plan" "merges" "I") (by decide +kernel)
  have hf25 := hts (Cond.fieldLink RX4 25 "RunmergeOffice$Plan" "count" "I") (by decide +kernel)
  refine lv_aload_n hx hb dX4_tell_0 rfl (lv_at hl 0 rfl) ?_
  refine lv_aload_n hx hb dX4_tell_1 rfl (lv_at hl 1 rfl) ?_
  refine lv_aload_n hx hb dX4_tell_2 rfl (lv_at hl 0 rfl) ?_
  refine va_get (D := (dC, dI)) (ci := 6) (v := .ref pq) (C := RX4) (T := TX4) (N := 8) hx hb hts hiX4 hown hK hP k0 w0 rfl 0 (by decide) hf12 (fun _ h9 => h9) rfl dX4_tell_3 ?_
  refine lv_aload_n hx hb dX4_tell_6 rfl (lv_at hl 2 rfl) ?_
  refine lv_aload_n hx hb dX4_tell_7 rfl (lv_at hl 1 rfl) ?_
  refine va_getN (D := (dC, dI)) (ci := 9) (v := .int 0) (C := RX7) (T := TX7) (N := 5) hx hb hts hiX7 hown hK hP k2 w2 rfl 3 (by decide) (nf_26 hG) (fun _ h9 => h9) rfl dX4_tell_8 ?_
  refine va_calli (va_runV (As := [.ref w, .int 0]) (rest := [.ref r, .ref t]) ⟨hx, hb, hml, hown, hts⟩ (c_X3_arrange_1 l dC dI g Wd pq p1 p2 w rw k1 w1 k3 w3  s.heap.size) (cwV 2 hts gX4_tell_X3_arrange rfl rfl rfl (by decide +kernel) ⟨Nat.le_of_ble_eq_true rfl, Nat.le_of_ble_eq_true rfl⟩) ⟨PG_blind, va_recv hK hP (ci := 5) (q0 := k1) rfl w1, PG_call hK hG hS hP hD (A_all hD hA hS.1)⟩ rfl rfl hl.1 rfl (lv_room (Nat.le_of_ble_eq_true rfl)) dX4_tell_11 ⟨Nat.le_of_ble_eq_true rfl, Nat.le_of_ble_eq_true rfl⟩) hS (fun q _ h => (A_all hD hA hS.1) q h) (A_all hD hA hS.1) (fun r_1 u_1 t_1 H_1 L_1 ht_1 hvm_1 hw_1 hB_1 hz_1 hk_1 hS => ?_)
  replace hB_1 := (show va_P (dC, dI) vwCl Wd t_1.heap from hB_1)
  rw [ht_1] at hB_1
  have hP := hB_1
  obtain rfl : r_1 = 0 := hw_1
  refine va_callv (va_runV (As := [.ref r, .int 0]) (rest := []) ⟨hx, hb, hml, hown, hts⟩ (c_X4_takeLengths l dC dI g Wd t pq a b r k0 w0  H_1.size) (cwV 2 hts gX4_tell_X4_takeLengths rfl rfl rfl (by decide +kernel) ⟨Nat.le_of_ble_eq_true rfl, Nat.le_of_ble_eq_true rfl⟩) ⟨PG_blind, va_recv hK hP (ci := 6) (q0 := k0) rfl w0, PG_call hK hG hS hP hD (A_all hD hA hS.1)⟩ rfl rfl hl.1 rfl (lv_room (Nat.le_of_ble_eq_true rfl)) dX4_tell_14 ⟨Nat.le_of_ble_eq_true rfl, Nat.le_of_ble_eq_true rfl⟩) hS (fun q _ h => (A_all hD hA hS.1) q h) (A_all hD hA hS.1) (fun u_2 t_2 H_2 L_2 ht_2 hvm_2 hw_2 hB_2 hz_2 hk_2 hS => ?_)
  replace hB_2 := (show va_P (dC, dI) vwCl Wd t_2.heap from hB_2)
  rw [ht_2] at hB_2
  have hP := hB_2
  refine lv_aload_n hx hb dX4_tell_17 rfl (lv_at hl 0 rfl) ?_
  refine lv_iconst (v := 0) hx hb dX4_tell_18 (by decide) ?_
  refine va_putS (D := (dC, dI)) (ci := 6) (v := .int 0) (ty := .int) (C := RX4) (T := TX4) (N := 8) hx hb hts hiX4 tyX4 tyX4_ok nmX4 hown hK hP hD hS k0 w0 rfl 5 (by decide) hf32 (fun _ h9 => h9) rfl (by decide +kernel) rfl rfl (Nat.le_of_ble_eq_true rfl) rfl dX4_tell_19 (fun H_3 L_4 hP hS => ?_)
  refine lv_aload_n hx hb dX4_tell_22 rfl (lv_at hl 0 rfl) ?_
  refine lv_iconst (v := 0) hx hb dX4_tell_23 (by decide) ?_
  refine va_putS (D := (dC, dI)) (ci := 6) (v := .int 0) (ty := .int) (C := RX4) (T := TX4) (N := 8) hx hb hts hiX4 tyX4 tyX4_ok nmX4 hown hK hP hD hS k0 w0 rfl 6 (by decide) hf35 (fun _ h9 => h9) rfl (by decide +kernel) rfl rfl (Nat.le_of_ble_eq_true rfl) rfl dX4_tell_24 (fun H_5 L_6 hP hS => ?_)
  refine lv_aload_n hx hb dX4_tell_27 rfl (lv_at hl 0 rfl) ?_
  refine lv_iconst (v := 0) hx hb dX4_tell_28 (by decide) ?_
  refine va_putS (D := (dC, dI)) (ci := 6) (v := .int 0) (ty := .int) (C := RX4) (T := TX4) (N := 8) hx hb hts hiX4 tyX4 tyX4_ok nmX4 hown hK hP hD hS k0 w0 rfl 7 (by decide) hf38 (fun _ h9 => h9) rfl (by decide +kernel) rfl rfl (Nat.le_of_ble_eq_true rfl) rfl dX4_tell_29 (fun H_7 L_8 hP hS => ?_)
  refine lv_aload_n hx hb dX4_tell_32 rfl (lv_at hl 0 rfl) ?_
  refine va_get (D := (dC, dI)) (ci := 6) (v := .int 0) (C := RX4) (T := TX4) (N := 8) hx hb hts hiX4 hown hK hP k0 w0 rfl 3 (by decide) hf25 (fun _ h9 => h9) rfl dX4_tell_33 ?_
  refine lv_iconst (v := 1) hx hb dX4_tell_36 (by decide) ?_
  refine lv_icmp_le (tgt := 67) hx hb dX4_tell_37 (by decide) (fun c_9 => ?_) (fun c_9 => absurd (by decide) c_9)
  exact W.vret hx hb hr (fun t ht hW => ⟨⟨(), rfl, trivial, P_at ht hP⟩, hS.F ht⟩) hS.2.2 dX4_tell_67
set_option maxHeartbeats 4000000 in
set_option maxRecDepth 100000 in
theorem c_X4_tell_2 (l : Launch) (dC : Nat → ClassId) (dI : Nat → Nat → Nat) (g : Nat → ClassId) (Wd : va_W) (t : Nat) (pq : Nat) (a : Nat) (b : Nat) (p1 : Nat) (p2 : Nat) (r : Nat) (ra : Nat) (rb : Nat) (rc : Nat) (w : Nat) (rw : Int32) (k0 : Nat) (w0 : Wd[k0]? = some (t, .inr (6, [.ref pq, .ref a, .ref b, .int 0, .int 0, .int 0, .int 0, .int 0]))) (k1 : Nat) (w1 : Wd[k1]? = some (pq, .inr (5, [.ref p1, .ref p2, .int 2, .int 2, .int 0, .int 0]))) (k2 : Nat) (w2 : Wd[k2]? = some (r, .inr (9, [.ref ra, .ref rb, .ref rc, .int 0, .int 0]))) (k3 : Nat) (w3 : Wd[k3]? = some (w, .inr (10, [.int 0, .int rw, .int 4, .int 2, .int 2]))) (sz : Nat) : Met l yX4_tell wsX4_tell ({ frames := 2, cells := 0, slots := 0, locals := 38 }) (va_Pc [.ref t, .ref r, .ref w] (PG (dC, dI) g Wd sz)) (va_Qv (fun (_ : Unit) => True) (fun (_ : Unit) t => va_P (dC, dI) vwCl Wd t.heap) (va_A Wd sz)) 0 0 (va_A Wd sz) := by
  refine Met.ofW (cc := cX4_tell) (maxL := 3) (ret := none) (by decide) rfl ?_
  intro p e s m args below meth c s₁ B hml hv
  obtain ⟨rfl, hsz, hP, hK, hD0, hG⟩ := hv
  have hx := B.exec
  have hb := B.bytes
  have hr := B.returns
  have hts := atoms_spec (ws := wsX4_tell) B.pre
  have hown : s.vm.findClass RX4 = some m.cls := findClass_of_methodNamed B.named
  have hlocks := B.notSynchronized
  subst hsz
  have hD := hD0.self (sz := s.heap.size)
  generalize hAe : va_A Wd s.heap.size = A at hD hG ⊢
  have hA : ∀ q : Nat, s.heap.size ≤ q → A q := fun q h => by rw [← hAe]; exact Or.inr h
  have hS : va_S A s.heap s.heap [] := va_S.rf
  have hl := lv_entry ([.ref t, .ref r, .ref w]) (n := 3) (Nat.le_of_ble_eq_true rfl)
  rw [lg_entry_eq]
  generalize (lg_sl ([.ref t, .ref r, .ref w]) ++ List.replicate (3 - (lg_sl ([.ref t, .ref r, .ref w])).length) Slot.unset).toArray = ls at hl ⊢
  have hl : lv_has ls 3 [(0, .ref t), (1, .ref r), (2, .ref w)] := hl
  have hf12 := hts (Cond.fieldLink RX4 12 "RunmergeOffice$Plan" "pass" "LRunmergeOffice$Pass;") (by decide +kernel)
  have hiX4 : ∀ w ∈ u_ws RX4 TX4 8, w ∈ wsX4_tell := by decide +kernel
  have hiX7 : ∀ w ∈ u_ws RX7 TX7 5, w ∈ wsX4_tell := by decide +kernel
  have hf32 := hts (Cond.fieldLink RX4 32 "RunmergeOffice$Plan" "passes" "I") (by decide +kernel)
  have hf35 := hts (Cond.fieldLink RX4 35 "RunmergeOffice$Plan" "moves" "I") (by decide +kernel)
  have hf38 := hts (Cond.fieldLink RX4 38 "RunmergeOffice$Plan" "merges" "I") (by decide +kernel)
  have hf25 := hts (Cond.fieldLink RX4 25 "RunmergeOffice$Plan" "count" "I") (by decide +kernel)
  refine lv_aload_n hx hb dX4_tell_0 rfl (lv_at hl 0 rfl) ?_
  refine lv_aload_n hx hb dX4_tell_1 rfl (lv_at hl 1 rfl) ?_
  refine lv_aload_n hx hb dX4_tell_2 rfl (lv_at hl 0 rfl) ?_
  refine va_get (D := (dC, dI)) (ci := 6) (v := .ref pq) (C := RX4) (T := TX4) (N := 8) hx hb hts hiX4 hown hK hP k0 w0 rfl 0 (by decide) hf12 (fun _ h9 => h9) rfl dX4_tell_3 ?_
  refine lv_aload_n hx hb dX4_tell_6 rfl (lv_at hl 2 rfl) ?_
  refine lv_aload_n hx hb dX4_tell_7 rfl (lv_at hl 1 rfl) ?_
  refine va_getN (D := (dC, dI)) (ci := 9) (v := .int 0) (C := RX7) (T := TX7) (N := 5) hx hb hts hiX7 hown hK hP k2 w2 rfl 3 (by decide) (nf_26 hG) (fun _ h9 => h9) rfl dX4_tell_8 ?_
  refine va_calli (va_runV (As := [.ref w, .int 0]) (rest := [.ref r, .ref t]) ⟨hx, hb, hml, hown, hts⟩ (c_X3_arrange_2 l dC dI g Wd pq p1 p2 w rw k1 w1 k3 w3  s.heap.size) (cwV 2 hts gX4_tell_X3_arrange rfl rfl rfl (by decide +kernel) ⟨Nat.le_of_ble_eq_true rfl, Nat.le_of_ble_eq_true rfl⟩) ⟨PG_blind, va_recv hK hP (ci := 5) (q0 := k1) rfl w1, PG_call hK hG hS hP hD (A_all hD hA hS.1)⟩ rfl rfl hl.1 rfl (lv_room (Nat.le_of_ble_eq_true rfl)) dX4_tell_11 ⟨Nat.le_of_ble_eq_true rfl, Nat.le_of_ble_eq_true rfl⟩) hS (fun q _ h => (A_all hD hA hS.1) q h) (A_all hD hA hS.1) (fun r_1 u_1 t_1 H_1 L_1 ht_1 hvm_1 hw_1 hB_1 hz_1 hk_1 hS => ?_)
  replace hB_1 := (show va_P (dC, dI) vwCl Wd t_1.heap from hB_1)
  rw [ht_1] at hB_1
  have hP := hB_1
  obtain rfl : r_1 = 0 := hw_1
  refine va_callv (va_runV (As := [.ref r, .int 0]) (rest := []) ⟨hx, hb, hml, hown, hts⟩ (c_X4_takeLengths l dC dI g Wd t pq a b r k0 w0  H_1.size) (cwV 2 hts gX4_tell_X4_takeLengths rfl rfl rfl (by decide +kernel) ⟨Nat.le_of_ble_eq_true rfl, Nat.le_of_ble_eq_true rfl⟩) ⟨PG_blind, va_recv hK hP (ci := 6) (q0 := k0) rfl w0, PG_call hK hG hS hP hD (A_all hD hA hS.1)⟩ rfl rfl hl.1 rfl (lv_room (Nat.le_of_ble_eq_true rfl)) dX4_tell_14 ⟨Nat.le_of_ble_eq_true rfl, Nat.le_of_ble_eq_true rfl⟩) hS (fun q _ h => (A_all hD hA hS.1) q h) (A_all hD hA hS.1) (fun u_2 t_2 H_2 L_2 ht_2 hvm_2 hw_2 hB_2 hz_2 hk_2 hS => ?_)
  replace hB_2 := (show va_P (dC, dI) vwCl Wd t_2.heap from hB_2)
  rw [ht_2] at hB_2
  have hP := hB_2
  refine lv_aload_n hx hb dX4_tell_17 rfl (lv_at hl 0 rfl) ?_
  refine lv_iconst (v := 0) hx hb dX4_tell_18 (by decide) ?_
  refine va_putS (D := (dC, dI)) (ci := 6) (v := .int 0) (ty := .int) (C := RX4) (T := TX4) (N := 8) hx hb hts hiX4 tyX4 tyX4_ok nmX4 hown hK hP hD hS k0 w0 rfl 5 (by decide) hf32 (fun _ h9 => h9) rfl (by decide +kernel) rfl rfl (Nat.le_of_ble_eq_true rfl) rfl dX4_tell_19 (fun H_3 L_4 hP hS => ?_)
  refine lv_aload_n hx hb dX4_tell_22 rfl (lv_at hl 0 rfl) ?_
  refine lv_iconst (v := 0) hx hb dX4_tell_23 (by decide) ?_
  refine va_putS (D := (dC, dI)) (ci := 6) (v := .int 0) (ty := .int) (C := RX4) (T := TX4) (N := 8) hx hb hts hiX4 tyX4 tyX4_ok nmX4 hown hK hP hD hS k0 w0 rfl 6 (by decide) hf35 (fun _ h9 => h9) rfl (by decide +kernel) rfl rfl (Nat.le_of_ble_eq_true rfl) rfl dX4_tell_24 (fun H_5 L_6 hP hS => ?_)
  refine lv_aload_n hx hb dX4_tell_27 rfl (lv_at hl 0 rfl) ?_
  refine lv_iconst (v := 0) hx hb dX4_tell_28 (by decide) ?_
  refine va_putS (D := (dC, dI)) (ci := 6) (v := .int 0) (ty := .int) (C := RX4) (T := TX4) (N := 8) hx hb hts hiX4 tyX4 tyX4_ok nmX4 hown hK hP hD hS k0 w0 rfl 7 (by decide) hf38 (fun _ h9 => h9) rfl (by decide +kernel) rfl rfl (Nat.le_of_ble_eq_true rfl) rfl dX4_tell_29 (fun H_7 L_8 hP hS => ?_)
  refine lv_aload_n hx hb dX4_tell_32 rfl (lv_at hl 0 rfl) ?_
  refine va_get (D := (dC, dI)) (ci := 6) (v := .int 0) (C := RX4) (T := TX4) (N := 8) hx hb hts hiX4 hown hK hP k0 w0 rfl 3 (by decide) hf25 (fun _ h9 => h9) rfl dX4_tell_33 ?_
  refine lv_iconst (v := 1) hx hb dX4_tell_36 (by decide) ?_
  refine lv_icmp_le (tgt := 67) hx hb dX4_tell_37 (by decide) (fun c_9 => ?_) (fun c_9 => absurd (by decide) c_9)
  exact W.vret hx hb hr (fun t ht hW => ⟨⟨(), rfl, trivial, P_at ht hP⟩, hS.F ht⟩) hS.2.2 dX4_tell_67
set_option maxHeartbeats 4000000 in
set_option maxRecDepth 100000 in
theorem c_X4_fewestMoves (l : Launch) (dC : Nat → ClassId) (dI : Nat → Nat → Nat) (g : Nat → ClassId) (Wd : va_W) (t : Nat) (pq : Nat) (a : Nat) (b : Nat) (r : Nat) (ra : Nat) (rb : Nat) (rc : Nat) (k0 : Nat) (w0 : Wd[k0]? = some (t, .inr (6, [.ref pq, .ref a, .ref b, .int 0, .int 0, .int 0, .int 0, .int 0]))) (k1 : Nat) (w1 : Wd[k1]? = some (r, .inr (9, [.ref ra, .ref rb, .ref rc, .int 0, .int 0]))) (sz : Nat) : Met l yX4_fewestMoves wsX4_fewestMoves ({ frames := 2, cells := 0, slots := 0, locals := 37 }) (va_Pc [.ref t, .ref r] (PG (dC, dI) g Wd sz)) (va_Qi (fun (r : Int32) (_ : Unit) => r = 0) (fun (_ : Unit) t => va_P (dC, dI) vwCl Wd t.heap) (va_A Wd sz)) 0 0 (va_A Wd sz) := by
  refine Met.ofW (cc := cX4_fewestMoves) (maxL := 5) (ret := (some .int)) (by decide) rfl ?_
  intro p e s m args below meth c s₁ B hml hv
  obtain ⟨rfl, hsz, hP, hK, hD0, hG⟩ := hv
  have hx := B.exec
  have hb := B.bytes
  have hr := B.returns
  have hts := atoms_spec (ws := wsX4_fewestMoves) B.pre
  have hown : s.vm.findClass RX4 = some m.cls := findClass_of_methodNamed B.named
  have hlocks := B.notSynchronized
  subst hsz
  have hD := hD0.self (sz := s.heap.size)
  generalize hAe : va_A Wd s.heap.size = A at hD hG ⊢
  have hA : ∀ q : Nat, s.heap.size ≤ q → A q := fun q h => by rw [← hAe]; exact Or.inr h
  have hS : va_S A s.heap s.heap [] := va_S.rf
  have hl := lv_entry ([.ref t, .ref r]) (n := 5) (Nat.le_of_ble_eq_true rfl)
  rw [lg_entry_eq]
  generalize (lg_sl ([.ref t, .ref r]) ++ List.replicate (5 - (lg_sl ([.ref t, .ref r])).length) Slot.unset).toArray = ls at hl ⊢
  have hl : lv_has ls 5 [(0, .ref t), (1, .ref r)] := hl
  have hiX7 : ∀ w ∈ u_ws RX7 TX7 5, w ∈ wsX4_fewestMoves := by decide +kernel
  have hf25 := hts (Cond.fieldLink RX4 25 "RunmergeOffice$Plan" "count" "I") (by decide +kernel)
  have hiX4 : ∀ w ∈ u_ws RX4 TX4 8, w ∈ wsX4_fewestMoves := by decide +kernel
  refine lv_aload_n hx hb dX4_fewestMoves_0 rfl (lv_at hl 0 rfl) ?_
  refine lv_aload_n hx hb dX4_fewestMoves_1 rfl (lv_at hl 1 rfl) ?_
  refine lv_aload_n hx hb dX4_fewestMoves_2 rfl (lv_at hl 1 rfl) ?_
  refine va_getN (D := (dC, dI)) (ci := 9) (v := .int 0) (C := RX7) (T := TX7) (N := 5) hx hb hts hiX7 hown hK hP k1 w1 rfl 3 (by decide) (nf_26 hG) (fun _ h9 => h9) rfl dX4_fewestMoves_3 ?_
  refine va_callv (va_runV (As := [.ref r, .int 0]) (rest := []) ⟨hx, hb, hml, hown, hts⟩ (c_X4_takeLengths l dC dI g Wd t pq a b r k0 w0  s.heap.size) (cwV 2 hts gX4_fewestMoves_X4_takeLengths rfl rfl rfl (by decide +kernel) ⟨Nat.le_of_ble_eq_true rfl, Nat.le_of_ble_eq_true rfl⟩) ⟨PG_blind, va_recv hK hP (ci := 6) (q0 := k0) rfl w0, PG_call hK hG hS hP hD (A_all hD hA hS.1)⟩ rfl rfl hl.1 rfl (lv_room (Nat.le_of_ble_eq_true rfl)) dX4_fewestMoves_6 ⟨Nat.le_of_ble_eq_true rfl, Nat.le_of_ble_eq_true rfl⟩) hS (fun q _ h => (A_all hD hA hS.1) q h) (A_all hD hA hS.1) (fun u_1 t_1 H_1 L_1 ht_1 hvm_1 hw_1 hB_1 hz_1 hk_1 hS => ?_)
  replace hB_1 := (show va_P (dC, dI) vwCl Wd t_1.heap from hB_1)
  rw [ht_1] at hB_1
  have hP := hB_1
  refine lv_iconst (v := 0) hx hb dX4_fewestMoves_9 (by decide) ?_
  refine lv_istore_n (lv' := [(2, .int 0), (0, .ref t), (1, .ref r)]) hx hb dX4_fewestMoves_10 rfl hl (by decide) rfl (fun ls hl => ?_)
  refine lv_aload_n hx hb dX4_fewestMoves_11 rfl (lv_at hl 1 rfl) ?_
  refine va_get (D := (dC, dI)) (ci := 6) (v := .int 0) (C := RX4) (T := TX4) (N := 8) hx hb hts hiX4 hown hK hP k0 w0 rfl 3 (by decide) hf25 (fun _ h9 => h9) rfl dX4_fewestMoves_12 ?_
  refine lv_istore_n (lv' := [(3, .int 0), (2, .int 0), (0, .ref t), (1, .ref r)]) hx hb dX4_fewestMoves_15 rfl hl (by decide) rfl (fun ls hl => ?_)
  refine lv_iload_n hx hb dX4_fewestMoves_16 rfl (lv_at hl 0 rfl) ?_
  refine lv_iconst (v := 1) hx hb dX4_fewestMoves_17 (by decide) ?_
  refine lv_icmp_le (tgt := 66) hx hb dX4_fewestMoves_18 (by decide) (fun c_2 => ?_) (fun c_2 => absurd (by decide) c_2)
  refine lv_iload_n hx hb dX4_fewestMoves_66 rfl (lv_at hl 1 rfl) ?_
  exact W.iret (v := 0) hx hb hr (fun t ht hW => ⟨⟨0, (), rfl, rfl, P_at ht hP⟩, hS.F ht⟩) hS.2.2 dX4_fewestMoves_67
set_option maxHeartbeats 4000000 in
set_option maxRecDepth 100000 in
theorem c_X10_byteAt (l : Launch) (dC : Nat → ClassId) (dI : Nat → Nat → Nat) (g : Nat → ClassId) (Wd : va_W) (t : Nat) (b : Nat) (k0 : Nat) (w0 : Wd[k0]? = some (t, .inr (12, [.ref b, .int 0]))) (sz : Nat) : Met l yX10_byteAt wsX10_byteAt ({ frames := 0, cells := 0, slots := 0, locals := 0 }) (va_Pc [.ref t, .int 0] (PG (dC, dI) g Wd sz)) (va_Qi (fun (r : Int32) (_ : Unit) => r = 0) (fun (_ : Unit) t => va_P (dC, dI) vwCl Wd t.heap) (va_A Wd sz)) 0 0 (va_A Wd sz) := by
  refine Met.ofW (cc := cX10_byteAt) (maxL := 2) (ret := (some .int)) (by decide) rfl ?_
  intro p e s m args below meth c s₁ B hml hv
  obtain ⟨rfl, hsz, hP, hK, hD0, hG⟩ := hv
  have hx := B.exec
  have hb := B.bytes
  have hr := B.returns
  have hts := atoms_spec (ws := wsX10_byteAt) B.pre
  have hown : s.vm.findClass RX10 = some m.cls := findClass_of_methodNamed B.named
  have hlocks := B.notSynchronized
  subst hsz
  have hD := hD0.self (sz := s.heap.size)
  generalize hAe : va_A Wd s.heap.size = A at hD hG ⊢
  have hA : ∀ q : Nat, s.heap.size ≤ q → A q := fun q h => by rw [← hAe]; exact Or.inr h
  have hS : va_S A s.heap s.heap [] := va_S.rf
  have hl := lv_entry ([.ref t, .int 0]) (n := 2) (Nat.le_of_ble_eq_true rfl)
  rw [lg_entry_eq]
  generalize (lg_sl ([.ref t, .int 0]) ++ List.replicate (2 - (lg_sl ([.ref t, .int 0])).length) Slot.unset).toArray = ls at hl ⊢
  have hl : lv_has ls 2 [(0, .ref t), (1, .int 0)] := hl
  have hf15 := hts (Cond.fieldLink RX10 15 "RunmergeOffice$Text" "size" "I") (by decide +kernel)
  have hiX10 : ∀ w ∈ u_ws RX10 TX10 2, w ∈ wsX10_byteAt := by decide +kernel
  refine lv_iload_n hx hb dX10_byteAt_0 rfl (lv_at hl 1 rfl) ?_
  refine lv_if_lt (tgt := 28) hx hb dX10_byteAt_1 (by decide) (fun c_1 => absurd c_1 (by decide)) (fun c_1 => ?_)
  refine lv_iload_n hx hb dX10_byteAt_4 rfl (lv_at hl 1 rfl) ?_
  refine lv_aload_n hx hb dX10_byteAt_5 rfl (lv_at hl 0 rfl) ?_
  refine va_get (D := (dC, dI)) (ci := 12) (v := .int 0) (C := RX10) (T := TX10) (N := 2) hx hb hts hiX10 hown hK hP k0 w0 rfl 1 (by decide) hf15 (fun _ h9 => h9) rfl dX10_byteAt_6 ?_
  refine lv_icmp_ge (tgt := 28) hx hb dX10_byteAt_9 (by decide) (fun c_2 => ?_) (fun c_2 => absurd (by decide) c_2)
  refine lv_iconst (v := 0) hx hb dX10_byteAt_28 (by decide) ?_
  exact W.iret (v := 0) hx hb hr (fun t ht hW => ⟨⟨0, (), rfl, rfl, P_at ht hP⟩, hS.F ht⟩) hS.2.2 dX10_byteAt_29
set_option maxHeartbeats 4000000 in
set_option maxRecDepth 100000 in
theorem c_X10_empty (l : Launch) (dC : Nat → ClassId) (dI : Nat → Nat → Nat) (g : Nat → ClassId) (Wd : va_W) (t : Nat) (b : Nat) (k0 : Nat) (w0 : Wd[k0]? = some (t, .inr (12, [.ref b, .int 0]))) (sz : Nat) : Met l yX10_empty wsX10_empty ({ frames := 0, cells := 0, slots := 0, locals := 0 }) (va_Pc [.ref t] (PG (dC, dI) g Wd sz)) (va_Qv (fun (_ : Unit) => True) (fun (_ : Unit) t => va_P (dC, dI) vwCl Wd t.heap) (va_A Wd sz)) 0 0 (va_A Wd sz) := by
  refine Met.ofW (cc := cX10_empty) (maxL := 1) (ret := none) (by decide) rfl ?_
  intro p e s m args below meth c s₁ B hml hv
  obtain ⟨rfl, hsz, hP, hK, hD0, hG⟩ := hv
  have hx := B.exec
  have hb := B.bytes
  have hr := B.returns
  have hts := atoms_spec (ws := wsX10_empty) B.pre
  have hown : s.vm.findClass RX10 = some m.cls := findClass_of_methodNamed B.named
  have hlocks := B.notSynchronized
  subst hsz
  have hD := hD0.self (sz := s.heap.size)
  generalize hAe : va_A Wd s.heap.size = A at hD hG ⊢
  have hA : ∀ q : Nat, s.heap.size ≤ q → A q := fun q h => by rw [← hAe]; exact Or.inr h
  have hS : va_S A s.heap s.heap [] := va_S.rf
  have hl := lv_entry ([.ref t]) (n := 1) (Nat.le_of_ble_eq_true rfl)
  rw [lg_entry_eq]
  generalize (lg_sl ([.ref t]) ++ List.replicate (1 - (lg_sl ([.ref t])).length) Slot.unset).toArray = ls at hl ⊢
  have hl : lv_has ls 1 [(0, .ref t)] := hl
  have hf15 := hts (Cond.fieldLink RX10 15 "RunmergeOffice$Text" "size" "I") (by decide +kernel)
  have hiX10 : ∀ w ∈ u_ws RX10 TX10 2, w ∈ wsX10_empty := by decide +kernel
  refine lv_aload_n hx hb dX10_empty_0 rfl (lv_at hl 0 rfl) ?_
  refine lv_iconst (v := 0) hx hb dX10_empty_1 (by decide) ?_
  refine va_putS (D := (dC, dI)) (ci := 12) (v := .int 0) (ty := .int) (C := RX10) (T := TX10) (N := 2) hx hb hts hiX10 tyX10 tyX10_ok nmX10 hown hK hP hD hS k0 w0 rfl 1 (by decide) hf15 (fun _ h9 => h9) rfl (by decide +kernel) rfl rfl (Nat.le_of_ble_eq_true rfl) rfl dX10_empty_2 (fun H_1 L_2 hP hS => ?_)
  exact W.vret hx hb hr (fun t ht hW => ⟨⟨(), rfl, trivial, P_at ht hP⟩, hS.F ht⟩) hS.2.2 dX10_empty_5
set_option maxHeartbeats 4000000 in
set_option maxRecDepth 100000 in
theorem c_X5_kindOf (l : Launch) (dC : Nat → ClassId) (dI : Nat → Nat → Nat) (g : Nat → ClassId) (Wd : va_W) (sz : Nat) : Met l yX5_kindOf wsX5_kindOf ({ frames := 0, cells := 0, slots := 0, locals := 0 }) (va_Pc [.int 0] (PG (dC, dI) g Wd sz)) (va_Qi (fun (r : Int32) (_ : Unit) => r = 0) (fun (_ : Unit) t => va_P (dC, dI) vwCl Wd t.heap) (va_A Wd sz)) 0 0 (va_A Wd sz) := by
  refine Met.ofW (cc := cX5_kindOf) (maxL := 1) (ret := (some .int)) (by decide) rfl ?_
  intro p e s m args below meth c s₁ B hml hv
  obtain ⟨rfl, hsz, hP, hK, hD0, hG⟩ := hv
  have hx := B.exec
  have hb := B.bytes
  have hr := B.returns
  have hts := atoms_spec (ws := wsX5_kindOf) B.pre
  have hown : s.vm.findClass RX5 = some m.cls := findClass_of_methodNamed B.named
  have hlocks := B.notSynchronized
  subst hsz
  have hD := hD0.self (sz := s.heap.size)
  generalize hAe : va_A Wd s.heap.size = A at hD hG ⊢
  have hA : ∀ q : Nat, s.heap.size ≤ q → A q := fun q h => by rw [← hAe]; exact Or.inr h
  have hS : va_S A s.heap s.heap [] := va_S.rf
  have hl := lv_entry ([.int 0]) (n := 1) (Nat.le_of_ble_eq_true rfl)
  rw [lg_entry_eq]
  generalize (lg_sl ([.int 0]) ++ List.replicate (1 - (lg_sl ([.int 0])).length) Slot.unset).toArray = ls at hl ⊢
  have hl : lv_has ls 1 [(0, .int 0)] := hl
  refine lv_iload_n hx hb dX5_kindOf_0 rfl (lv_at hl 0 rfl) ?_
  refine lv_if_ne (tgt := 6) hx hb dX5_kindOf_1 (by decide) (fun c_1 => absurd (by decide) c_1) (fun c_1 => ?_)
  refine lv_iconst (v := 0) hx hb dX5_kindOf_4 (by decide) ?_
  exact W.iret (v := 0) hx hb hr (fun t ht hW => ⟨⟨0, (), rfl, rfl, P_at ht hP⟩, hS.F ht⟩) hS.2.2 dX5_kindOf_5
set_option maxHeartbeats 4000000 in
set_option maxRecDepth 100000 in
theorem c_X5_restart (l : Launch) (dC : Nat → ClassId) (dI : Nat → Nat → Nat) (g : Nat → ClassId) (Wd : va_W) (t : Nat) (x : Nat) (op : Nat) (to : Nat) (k0 : Nat) (w0 : Wd[k0]? = some (t, .inr (7, [.ref x, .ref op, .ref to, .int 0, .int 0, .int 0, .int 0, .int 0, .int 0, .int 0, .int 0, .int 0, .int (-1)]))) (sz : Nat) : Met l yX5_restart wsX5_restart ({ frames := 0, cells := 0, slots := 0, locals := 0 }) (va_Pc [.ref t] (PG (dC, dI) g Wd sz)) (va_Qv (fun (_ : Unit) => True) (fun (_ : Unit) t => va_P (dC, dI) vwCl Wd t.heap) (va_A Wd sz)) 0 0 (va_A Wd sz) := by
  refine Met.ofW (cc := cX5_restart) (maxL := 1) (ret := none) (by decide) rfl ?_
  intro p e s m args below meth c s₁ B hml hv
  obtain ⟨rfl, hsz, hP, hK, hD0, hG⟩ := hv
  have hx := B.exec
  have hb := B.bytes
  have hr := B.returns
  have hts := atoms_spec (ws := wsX5_restart) B.pre
  have hown : s.vm.findClass RX5 = some m.cls := findClass_of_methodNamed B.named
  have hlocks := B.notSynchronized
  subst hsz
  have hD := hD0.self (sz := s.heap.size)
  generalize hAe : va_A Wd s.heap.size = A at hD hG ⊢
  have hA : ∀ q : Nat, s.heap.size ≤ q → A q := fun q h => by rw [← hAe]; exact Or.inr h
  have hS : va_S A s.heap s.heap [] := va_S.rf
  have hl := lv_entry ([.ref t]) (n := 1) (Nat.le_of_ble_eq_true rfl)
  rw [lg_entry_eq]
  generalize (lg_sl ([.ref t]) ++ List.replicate (1 - (lg_sl ([.ref t])).length) Slot.unset).toArray = ls at hl ⊢
  have hl : lv_has ls 1 [(0, .ref t)] := hl
  have hf36 := hts (Cond.fieldLink RX5 36 "RunmergeOffice$Reader" "wordEnd" "I") (by decide +kernel)
  have hiX5 : ∀ w ∈ u_ws RX5 TX5 13, w ∈ wsX5_restart := by decide +kernel
  have hf55 := hts (Cond.fieldLink RX5 55 "RunmergeOffice$Reader" "faultKind" "I") (by decide +kernel)
  have hf58 := hts (Cond.fieldLink RX5 58 "RunmergeOffice$Reader" "faultPlace" "I") (by decide +kernel)
  refine lv_aload_n hx hb dX5_restart_0 rfl (lv_at hl 0 rfl) ?_
  refine lv_iconst (v := 0) hx hb dX5_restart_1 (by decide) ?_
  refine va_putS (D := (dC, dI)) (ci := 7) (v := .int 0) (ty := .int) (C := RX5) (T := TX5) (N := 13) hx hb hts hiX5 tyX5 tyX5_ok nmX5 hown hK hP hD hS k0 w0 rfl 5 (by decide) hf36 (fun _ h9 => h9) rfl (by decide +kernel) rfl rfl (Nat.le_of_ble_eq_true rfl) rfl dX5_restart_2 (fun H_1 L_2 hP hS => ?_)
  refine lv_aload_n hx hb dX5_restart_5 rfl (lv_at hl 0 rfl) ?_
  refine lv_iconst (v := 0) hx hb dX5_restart_6 (by decide) ?_
  refine va_putS (D := (dC, dI)) (ci := 7) (v := .int 0) (ty := .int) (C := RX5) (T := TX5) (N := 13) hx hb hts hiX5 tyX5 tyX5_ok nmX5 hown hK hP hD hS k0 w0 rfl 11 (by decide) hf55 (fun _ h9 => h9) rfl (by decide +kernel) rfl rfl (Nat.le_of_ble_eq_true rfl) rfl dX5_restart_7 (fun H_3 L_4 hP hS => ?_)
  refine lv_aload_n hx hb dX5_restart_10 rfl (lv_at hl 0 rfl) ?_
  refine lv_iconst (v := (-1)) hx hb dX5_restart_11 (by decide) ?_
  refine va_putS (D := (dC, dI)) (ci := 7) (v := .int (-1)) (ty := .int) (C := RX5) (T := TX5) (N := 13) hx hb hts hiX5 tyX5 tyX5_ok nmX5 hown hK hP hD hS k0 w0 rfl 12 (by decide) hf58 (fun _ h9 => h9) rfl (by decide +kernel) rfl rfl (Nat.le_of_ble_eq_true rfl) rfl dX5_restart_12 (fun H_5 L_6 hP hS => ?_)
  exact W.vret hx hb hr (fun t ht hW => ⟨⟨(), rfl, trivial, P_at ht hP⟩, hS.F ht⟩) hS.2.2 dX5_restart_15
set_option maxHeartbeats 4000000 in
set_option maxRecDepth 100000 in
theorem c_X5_readWord (l : Launch) (dC : Nat → ClassId) (dI : Nat → Nat → Nat) (g : Nat → ClassId) (Wd : va_W) (t : Nat) (x : Nat) (op : Nat) (to : Nat) (b : Nat) (k0 : Nat) (w0 : Wd[k0]? = some (t, .inr (7, [.ref x, .ref op, .ref to, .int 0, .int 0, .int 0, .int 0, .int 0, .int 0, .int 0, .int 0, .int 0, .int (-1)]))) (k1 : Nat) (w1 : Wd[k1]? = some (x, .inr (12, [.ref b, .int 0]))) (sz : Nat) : Met l yX5_readWord wsX5_readWord ({ frames := 1, cells := 0, slots := 0, locals := 21 }) (va_Pc [.ref t] (PG (dC, dI) g Wd sz)) (va_Qv (fun (_ : Unit) => True) (fun (_ : Unit) t => va_P (dC, dI) vwCl Wd t.heap) (va_A Wd sz)) 0 0 (va_A Wd sz) := by
  refine Met.ofW (cc := cX5_readWord) (maxL := 1) (ret := none) (by decide) rfl ?_
  intro p e s m args below meth c s₁ B hml hv
  obtain ⟨rfl, hsz, hP, hK, hD0, hG⟩ := hv
  have hx := B.exec
  have hb := B.bytes
  have hr := B.returns
  have hts := atoms_spec (ws := wsX5_readWord) B.pre
  have hown : s.vm.findClass RX5 = some m.cls := findClass_of_methodNamed B.named
  have hlocks := B.notSynchronized
  subst hsz
  have hD := hD0.self (sz := s.heap.size)
  generalize hAe : va_A Wd s.heap.size = A at hD hG ⊢
  have hA : ∀ q : Nat, s.heap.size ≤ q → A q := fun q h => by rw [← hAe]; exact Or.inr h
  have hS : va_S A s.heap s.heap [] := va_S.rf
  have hl := lv_entry ([.ref t]) (n := 1) (Nat.le_of_ble_eq_true rfl)
  rw [lg_entry_eq]
  generalize (lg_sl ([.ref t]) ++ List.replicate (1 - (lg_sl ([.ref t])).length) Slot.unset).toArray = ls at hl ⊢
  have hl : lv_has ls 1 [(0, .ref t)] := hl
  have hf36 := hts (Cond.fieldLink RX5 36 "RunmergeOffice$Reader" "wordEnd" "I") (by decide +kernel)
  have hiX5 : ∀ w ∈ u_ws RX5 TX5 13, w ∈ wsX5_readWord := by decide +kernel
  have hf33 := hts (Cond.fieldLink RX5 33 "RunmergeOffice$Reader" "wordPlace" "I") (by decide +kernel)
  have hf12 := hts (Cond.fieldLink RX5 12 "RunmergeOffice$Reader" "text" "LRunmergeOffice$Text;") (by decide +kernel)
  have hiX10 : ∀ w ∈ u_ws RX10 TX10 2, w ∈ wsX5_readWord := by decide +kernel
  have hf29 := hts (Cond.fieldLink RX5 29 "RunmergeOffice$Reader" "wordKind" "I") (by decide +kernel)
  refine lv_aload_n hx hb dX5_readWord_0 rfl (lv_at hl 0 rfl) ?_
  refine lv_aload_n hx hb dX5_readWord_1 rfl (lv_at hl 0 rfl) ?_
  refine va_get (D := (dC, dI)) (ci := 7) (v := .int 0) (C := RX5) (T := TX5) (N := 13) hx hb hts hiX5 hown hK hP k0 w0 rfl 5 (by decide) hf36 (fun _ h9 => h9) rfl dX5_readWord_2 ?_
  refine va_putS (D := (dC, dI)) (ci := 7) (v := .int 0) (ty := .int) (C := RX5) (T := TX5) (N := 13) hx hb hts hiX5 tyX5 tyX5_ok nmX5 hown hK hP hD hS k0 w0 rfl 4 (by decide) hf33 (fun _ h9 => h9) rfl (by decide +kernel) rfl rfl (Nat.le_of_ble_eq_true rfl) rfl dX5_readWord_5 (fun H_1 L_2 hP hS => ?_)
  refine lv_aload_n hx hb dX5_readWord_8 rfl (lv_at hl 0 rfl) ?_
  refine va_get (D := (dC, dI)) (ci := 7) (v := .int 0) (C := RX5) (T := TX5) (N := 13) hx hb hts hiX5 hown hK hP k0 w0 rfl 4 (by decide) hf33 (fun _ h9 => h9) rfl dX5_readWord_9 ?_
  refine lv_aload_n hx hb dX5_readWord_12 rfl (lv_at hl 0 rfl) ?_
  refine va_get (D := (dC, dI)) (ci := 7) (v := .ref x) (C := RX5) (T := TX5) (N := 13) hx hb hts hiX5 hown hK hP k0 w0 rfl 0 (by decide) hf12 (fun _ h9 => h9) rfl dX5_readWord_13 ?_
  refine va_getN (D := (dC, dI)) (ci := 12) (v := .int 0) (C := RX10) (T := TX10) (N := 2) hx hb hts hiX10 hown hK hP k1 w1 rfl 1 (by decide) (nf_50 hG) (fun _ h9 => h9) rfl dX5_readWord_16 ?_
  refine lv_icmp_ge (tgt := 51) hx hb dX5_readWord_19 (by decide) (fun c_3 => ?_) (fun c_3 => absurd (by decide) c_3)
  refine lv_aload_n hx hb dX5_readWord_51 rfl (lv_at hl 0 rfl) ?_
  refine lv_aload_n hx hb dX5_readWord_52 rfl (lv_at hl 0 rfl) ?_
  refine va_get (D := (dC, dI)) (ci := 7) (v := .ref x) (C := RX5) (T := TX5) (N := 13) hx hb hts hiX5 hown hK hP k0 w0 rfl 0 (by decide) hf12 (fun _ h9 => h9) rfl dX5_readWord_53 ?_
  refine lv_aload_n hx hb dX5_readWord_56 rfl (lv_at hl 0 rfl) ?_
  refine va_get (D := (dC, dI)) (ci := 7) (v := .int 0) (C := RX5) (T := TX5) (N := 13) hx hb hts hiX5 hown hK hP k0 w0 rfl 4 (by decide) hf33 (fun _ h9 => h9) rfl dX5_readWord_57 ?_
  refine va_calli (va_runV (As := [.int 0]) (rest := [.ref t]) ⟨hx, hb, hml, hown, hts⟩ (c_X10_byteAt l dC dI g Wd x b k1 w1  H_1.size) (cwV 1 hts gX5_readWord_X10_byteAt rfl rfl rfl (by decide +kernel) ⟨Nat.le_of_ble_eq_true rfl, Nat.le_of_ble_eq_true rfl⟩) ⟨PG_blind, va_recv hK hP (ci := 12) (q0 := k1) rfl w1, PG_call hK hG hS hP hD (A_all hD hA hS.1)⟩ rfl rfl hl.1 rfl (lv_room (Nat.le_of_ble_eq_true rfl)) dX5_readWord_60 ⟨Nat.le_of_ble_eq_true rfl, Nat.le_of_ble_eq_true rfl⟩) hS (fun q _ h => (A_all hD hA hS.1) q h) (A_all hD hA hS.1) (fun r_4 u_4 t_4 H_4 L_4 ht_4 hvm_4 hw_4 hB_4 hz_4 hk_4 hS => ?_)
  replace hB_4 := (show va_P (dC, dI) vwCl Wd t_4.heap from hB_4)
  rw [ht_4] at hB_4
  have hP := hB_4
  obtain rfl : r_4 = 0 := hw_4
  refine va_calli (va_runS (As := [.int 0]) (rest := [.ref t]) ⟨hx, hb, hml, hown, hts⟩ (c_X5_kindOf l dC dI g Wd    H_4.size) (va_cwS 1 hts gX5_readWord_X5_kindOf rfl rfl rfl (by decide +kernel) ⟨Nat.le_of_ble_eq_true rfl, Nat.le_of_ble_eq_true rfl⟩) ⟨PG_blind, PG_call hK hG hS hP hD (A_all hD hA hS.1)⟩ rfl rfl hl.1 rfl (lv_room (Nat.le_of_ble_eq_true rfl)) dX5_readWord_63 ⟨Nat.le_of_ble_eq_true rfl, Nat.le_of_ble_eq_true rfl⟩) hS (fun q _ h => (A_all hD hA hS.1) q h) (A_all hD hA hS.1) (fun r_5 u_5 t_5 H_5 L_5 ht_5 hvm_5 hw_5 hB_5 hz_5 hk_5 hS => ?_)
  replace hB_5 := (show va_P (dC, dI) vwCl Wd t_5.heap from hB_5)
  rw [ht_5] at hB_5
  have hP := hB_5
  obtain rfl : r_5 = 0 := hw_5
  refine va_putS (D := (dC, dI)) (ci := 7) (v := .int 0) (ty := .int) (C := RX5) (T := TX5) (N := 13) hx hb hts hiX5 tyX5 tyX5_ok nmX5 hown hK hP hD hS k0 w0 rfl 3 (by decide) hf29 (fun _ h9 => h9) rfl (by decide +kernel) rfl rfl (Nat.le_of_ble_eq_true rfl) rfl dX5_readWord_66 (fun H_6 L_7 hP hS => ?_)
  refine lv_aload_n hx hb dX5_readWord_69 rfl (lv_at hl 0 rfl) ?_
  refine lv_aload_n hx hb dX5_readWord_70 rfl (lv_at hl 0 rfl) ?_
  refine va_get (D := (dC, dI)) (ci := 7) (v := .int 0) (C := RX5) (T := TX5) (N := 13) hx hb hts hiX5 hown hK hP k0 w0 rfl 4 (by decide) hf33 (fun _ h9 => h9) rfl dX5_readWord_71 ?_
  refine va_putS (D := (dC, dI)) (ci := 7) (v := .int 0) (ty := .int) (C := RX5) (T := TX5) (N := 13) hx hb hts hiX5 tyX5 tyX5_ok nmX5 hown hK hP hD hS k0 w0 rfl 5 (by decide) hf36 (fun _ h9 => h9) rfl (by decide +kernel) rfl rfl (Nat.le_of_ble_eq_true rfl) rfl dX5_readWord_74 (fun H_8 L_9 hP hS => ?_)
  refine lv_aload_n hx hb dX5_readWord_77 rfl (lv_at hl 0 rfl) ?_
  refine va_get (D := (dC, dI)) (ci := 7) (v := .int 0) (C := RX5) (T := TX5) (N := 13) hx hb hts hiX5 hown hK hP k0 w0 rfl 3 (by decide) hf29 (fun _ h9 => h9) rfl dX5_readWord_78 ?_
  refine lv_iconst (v := 1) hx hb dX5_readWord_81 (by decide) ?_
  refine lv_icmp_eq (tgt := 93) hx hb dX5_readWord_82 (by decide) (fun c_10 => absurd c_10 (by decide)) (fun c_10 => ?_)
  refine lv_aload_n hx hb dX5_readWord_85 rfl (lv_at hl 0 rfl) ?_
  refine va_get (D := (dC, dI)) (ci := 7) (v := .int 0) (C := RX5) (T := TX5) (N := 13) hx hb hts hiX5 hown hK hP k0 w0 rfl 3 (by decide) hf29 (fun _ h9 => h9) rfl dX5_readWord_86 ?_
  refine lv_iconst (v := 2) hx hb dX5_readWord_89 (by decide) ?_
  refine lv_icmp_ne (tgt := 141) hx hb dX5_readWord_90 (by decide) (fun c_11 => ?_) (fun c_11 => absurd c_11 (by decide))
  refine lv_aload_n hx hb dX5_readWord_141 rfl (lv_at hl 0 rfl) ?_
  refine va_get (D := (dC, dI)) (ci := 7) (v := .int 0) (C := RX5) (T := TX5) (N := 13) hx hb hts hiX5 hown hK hP k0 w0 rfl 3 (by decide) hf29 (fun _ h9 => h9) rfl dX5_readWord_142 ?_
  refine lv_if_eq (tgt := 158) hx hb dX5_readWord_145 (by decide) (fun c_12 => ?_) (fun c_12 => absurd (by decide) c_12)
  exact W.vret hx hb hr (fun t ht hW => ⟨⟨(), rfl, trivial, P_at ht hP⟩, hS.F ht⟩) hS.2.2 dX5_readWord_158
set_option maxHeartbeats 4000000 in
set_option maxRecDepth 100000 in
theorem c_X5_readStatement (l : Launch) (dC : Nat → ClassId) (dI : Nat → Nat → Nat) (g : Nat → ClassId) (Wd : va_W) (t : Nat) (x : Nat) (op : Nat) (to : Nat) (b : Nat) (w : Nat) (k0 : Nat) (w0 : Wd[k0]? = some (t, .inr (7, [.ref x, .ref op, .ref to, .int 0, .int 0, .int 0, .int 0, .int 0, .int 0, .int 0, .int 0, .int 0, .int (-1)]))) (k1 : Nat) (w1 : Wd[k1]? = some (x, .inr (12, [.ref b, .int 0]))) (sz : Nat) : Met l yX5_readStatement wsX5_readStatement ({ frames := 2, cells := 0, slots := 0, locals := 41 }) (va_Pc [.ref t, .ref w] (PG (dC, dI) g Wd sz)) (va_Qi (fun (r : Int32) (_ : Unit) => r = 0) (fun (_ : Unit) t => va_P (dC, dI) vwCl Wd t.heap) (va_A Wd sz)) 0 0 (va_A Wd sz) := by
  refine Met.ofW (cc := cX5_readStatement) (maxL := 2) (ret := (some .boolean)) (by decide) rfl ?_
  intro p e s m args below meth c s₁ B hml hv
  obtain ⟨rfl, hsz, hP, hK, hD0, hG⟩ := hv
  have hx := B.exec
  have hb := B.bytes
  have hr := B.returns
  have hts := atoms_spec (ws := wsX5_readStatement) B.pre
  have hown : s.vm.findClass RX5 = some m.cls := findClass_of_methodNamed B.named
  have hlocks := B.notSynchronized
  subst hsz
  have hD := hD0.self (sz := s.heap.size)
  generalize hAe : va_A Wd s.heap.size = A at hD hG ⊢
  have hA : ∀ q : Nat, s.heap.size ≤ q → A q := fun q h => by rw [← hAe]; exact Or.inr h
  have hS : va_S A s.heap s.heap [] := va_S.rf
  have hl := lv_entry ([.ref t, .ref w]) (n := 2) (Nat.le_of_ble_eq_true rfl)
  rw [lg_entry_eq]
  generalize (lg_sl ([.ref t, .ref w]) ++ List.replicate (2 - (lg_sl ([.ref t, .ref w])).length) Slot.unset).toArray = ls at hl ⊢
  have hl : lv_has ls 2 [(0, .ref t), (1, .ref w)] := hl
  have hf29 := hts (Cond.fieldLink RX5 29 "RunmergeOffice$Reader" "wordKind" "I") (by decide +kernel)
  have hiX5 : ∀ w ∈ u_ws RX5 TX5 13, w ∈ wsX5_readStatement := by decide +kernel
  refine lv_aload_n hx hb dX5_readStatement_0 rfl (lv_at hl 0 rfl) ?_
  refine va_callv (va_runV (As := []) (rest := []) ⟨hx, hb, hml, hown, hts⟩ (c_X5_readWord l dC dI g Wd t x op to b k0 w0 k1 w1  s.heap.size) (cwV 0 hts gX5_readStatement_X5_readWord rfl rfl rfl (by decide +kernel) ⟨Nat.le_of_ble_eq_true rfl, Nat.le_of_ble_eq_true rfl⟩) ⟨PG_blind, va_recv hK hP (ci := 7) (q0 := k0) rfl w0, PG_call hK hG hS hP hD (A_all hD hA hS.1)⟩ rfl rfl hl.1 rfl (lv_room (Nat.le_of_ble_eq_true rfl)) dX5_readStatement_1 ⟨Nat.le_of_ble_eq_true rfl, Nat.le_of_ble_eq_true rfl⟩) hS (fun q _ h => (A_all hD hA hS.1) q h) (A_all hD hA hS.1) (fun u_1 t_1 H_1 L_1 ht_1 hvm_1 hw_1 hB_1 hz_1 hk_1 hS => ?_)
  replace hB_1 := (show va_P (dC, dI) vwCl Wd t_1.heap from hB_1)
  rw [ht_1] at hB_1
  have hP := hB_1
  refine lv_aload_n hx hb dX5_readStatement_4 rfl (lv_at hl 0 rfl) ?_
  refine va_get (D := (dC, dI)) (ci := 7) (v := .int 0) (C := RX5) (T := TX5) (N := 13) hx hb hts hiX5 hown hK hP k0 w0 rfl 3 (by decide) hf29 (fun _ h9 => h9) rfl dX5_readStatement_5 ?_
  refine lv_if_ne (tgt := 13) hx hb dX5_readStatement_8 (by decide) (fun c_2 => absurd (by decide) c_2) (fun c_2 => ?_)
  refine lv_iconst (v := 0) hx hb dX5_readStatement_11 (by decide) ?_
  exact W.zret (v := 0) hx hb hr rfl (fun t ht hW => ⟨⟨0, (), rfl, rfl, P_at ht hP⟩, hS.F ht⟩) hS.2.2 dX5_readStatement_12
