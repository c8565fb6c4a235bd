theorem dX13_part_0 : decode cX13_part 0 = .ok (.iload_n 2, 1) := by decide +kernel
theorem dX13_part_1 : decode cX13_part 1 = .ok (.iload_n 1, 1) := by decide +kernel
theorem dX13_part_2 : decode cX13_part 2 = .ok (.isub, 1) := by decide +kernel
theorem dX13_part_3 : decode cX13_part 3 = .ok (.newarray .int, 2) := by decide +kernel
theorem dX13_part_5 : decode cX13_part 5 = .ok (.astore_n 3, 1) := by decide +kernel
theorem dX13_part_6 : decode cX13_part 6 = .ok (.iload_n 1, 1) := by decide +kernel
theorem dX13_part_7 : decode cX13_part 7 = .ok (.istore 4, 2) := by decide +kernel
theorem dX13_part_9 : decode cX13_part 9 = .ok (.iload 4, 2) := by decide +kernel
theorem dX13_part_11 : decode cX13_part 11 = .ok (.iload_n 2, 1) := by decide +kernel
theorem dX13_part_12 : decode cX13_part 12 = .ok (.if_icmp .ge 19, 3) := by decide +kernel
theorem dX13_part_31 : decode cX13_part 31 = .ok (.aload_n 3, 1) := by decide +kernel
theorem dX13_part_32 : decode cX13_part 32 = .ok (.areturn, 1) := by decide +kernel
theorem dX13_areSame_0 : decode cX13_areSame 0 = .ok (.aload_n 0, 1) := by decide +kernel
theorem dX13_areSame_1 : decode cX13_areSame 1 = .ok (.arraylength, 1) := by decide +kernel
theorem dX13_areSame_2 : decode cX13_areSame 2 = .ok (.aload_n 1, 1) := by decide +kernel
theorem dX13_areSame_3 : decode cX13_areSame 3 = .ok (.arraylength, 1) := by decide +kernel
theorem dX13_areSame_4 : decode cX13_areSame 4 = .ok (.if_icmp .eq 5, 3) := by decide +kernel
theorem dX13_areSame_9 : decode cX13_areSame 9 = .ok (.iconst 0, 1) := by decide +kernel
theorem dX13_areSame_10 : decode cX13_areSame 10 = .ok (.istore_n 2, 1) := by decide +kernel
theorem dX13_areSame_11 : decode cX13_areSame 11 = .ok (.iload_n 2, 1) := by decide +kernel
theorem dX13_areSame_12 : decode cX13_areSame 12 = .ok (.aload_n 0, 1) := by decide +kernel
theorem dX13_areSame_13 : decode cX13_areSame 13 = .ok (.arraylength, 1) := by decide +kernel
theorem dX13_areSame_14 : decode cX13_areSame 14 = .ok (.if_icmp .ge 20, 3) := by decide +kernel
theorem dX13_areSame_34 : decode cX13_areSame 34 = .ok (.iconst 1, 1) := by decide +kernel
theorem dX13_areSame_35 : decode cX13_areSame 35 = .ok (.ireturn, 1) := by decide +kernel
theorem dX13_failsOfRuns_0 : decode cX13_failsOfRuns 0 = .ok (.iconst 5, 1) := by decide +kernel
theorem dX13_failsOfRuns_1 : decode cX13_failsOfRuns 1 = .ok (.newarray .int, 2) := by decide +kernel
theorem dX13_failsOfRuns_3 : decode cX13_failsOfRuns 3 = .ok (.dup, 1) := by decide +kernel
theorem dX13_failsOfRuns_4 : decode cX13_failsOfRuns 4 = .ok (.iconst 0, 1) := by decide +kernel
theorem dX13_failsOfRuns_5 : decode cX13_failsOfRuns 5 = .ok (.aload_n 0, 1) := by decide +kernel
theorem dX13_failsOfRuns_6 : decode cX13_failsOfRuns 6 = .ok (.getfield 35, 3) := by decide +kernel
theorem dX13_failsOfRuns_9 : decode cX13_failsOfRuns 9 = .ok (.iconst 0, 1) := by decide +kernel
theorem dX13_failsOfRuns_10 : decode cX13_failsOfRuns 10 = .ok (.iaload, 1) := by decide +kernel
theorem dX13_failsOfRuns_11 : decode cX13_failsOfRuns 11 = .ok (.iastore, 1) := by decide +kernel
theorem dX13_failsOfRuns_12 : decode cX13_failsOfRuns 12 = .ok (.dup, 1) := by decide +kernel
theorem dX13_failsOfRuns_13 : decode cX13_failsOfRuns 13 = .ok (.iconst 1, 1) := by decide +kernel
theorem dX13_failsOfRuns_14 : decode cX13_failsOfRuns 14 = .ok (.iconst 1, 1) := by decide +kernel
theorem dX13_failsOfRuns_15 : decode cX13_failsOfRuns 15 = .ok (.iastore, 1) := by decide +kernel
theorem dX13_failsOfRuns_16 : decode cX13_failsOfRuns 16 = .ok (.dup, 1) := by decide +kernel
theorem dX13_failsOfRuns_17 : decode cX13_failsOfRuns 17 = .ok (.iconst 2, 1) := by decide +kernel
theorem dX13_failsOfRuns_18 : decode cX13_failsOfRuns 18 = .ok (.aload_n 0, 1) := by decide +kernel
theorem dX13_failsOfRuns_19 : decode cX13_failsOfRuns 19 = .ok (.getfield 35, 3) := by decide +kernel
theorem dX13_failsOfRuns_22 : decode cX13_failsOfRuns 22 = .ok (.iconst 2, 1) := by decide +kernel
theorem dX13_failsOfRuns_23 : decode cX13_failsOfRuns 23 = .ok (.iaload, 1) := by decide +kernel
theorem dX13_failsOfRuns_24 : decode cX13_failsOfRuns 24 = .ok (.iastore, 1) := by decide +kernel
theorem dX13_failsOfRuns_25 : decode cX13_failsOfRuns 25 = .ok (.dup, 1) := by decide +kernel
theorem dX13_failsOfRuns_26 : decode cX13_failsOfRuns 26 = .ok (.iconst 3, 1) := by decide +kernel
theorem dX13_failsOfRuns_27 : decode cX13_failsOfRuns 27 = .ok (.iconst 0, 1) := by decide +kernel
theorem dX13_failsOfRuns_28 : decode cX13_failsOfRuns 28 = .ok (.iastore, 1) := by decide +kernel
theorem dX13_failsOfRuns_29 : decode cX13_failsOfRuns 29 = .ok (.dup, 1) := by decide +kernel
theorem dX13_failsOfRuns_30 : decode cX13_failsOfRuns 30 = .ok (.iconst 4, 1) := by decide +kernel
theorem dX13_failsOfRuns_31 : decode cX13_failsOfRuns 31 = .ok (.iconst 2, 1) := by decide +kernel
theorem dX13_failsOfRuns_32 : decode cX13_failsOfRuns 32 = .ok (.iastore, 1) := by decide +kernel
theorem dX13_failsOfRuns_33 : decode cX13_failsOfRuns 33 = .ok (.astore_n 3, 1) := by decide +kernel
theorem dX13_failsOfRuns_34 : decode cX13_failsOfRuns 34 = .ok (.aload_n 0, 1) := by decide +kernel
theorem dX13_failsOfRuns_35 : decode cX13_failsOfRuns 35 = .ok (.aload_n 1, 1) := by decide +kernel
theorem dX13_failsOfRuns_36 : decode cX13_failsOfRuns 36 = .ok (.aload_n 3, 1) := by decide +kernel
set_option maxRecDepth 20000 in
theorem ggX13_failsOfRuns_X13_runsOf : GoodIn wsX13_failsOfRuns wsX13_runsOf := goodIn_r _ [8, 9, 10, 11, 12, 13, 14, 7, 15, 16, 17, 18, 19, 20, 21, 22, 23, 24, 25, 26, 27, 28, 29, 30, 31, 32, 33, 34, 35, 36, 37, 38, 39, 40, 41, 42, 43, 44, 45, 46, 47, 48, 49, 50, 51, 52, 53, 54, 55, 56, 57, 58, 59, 60, 61, 62, 63, 64, 65, 66, 67, 68, 69, 70, 71, 72, 73, 74, 75, 76, 77, 78, 79, 80, 81, 82, 83, 84, 85, 86, 87, 88, 89, 90, 91, 92, 93, 94, 95, 96, 97, 98, 99, 100, 101, 102, 103, 104, 105, 106, 107, 108, 109, 110, 111, 112, 113, 114, 115, 116, 117, 118, 119, 120, 121, 122, 123, 124, 125, 126, 127, 128, 129, 130, 131, 132, 133, 134, 135, 136, 137, 138, 139, 140, 141, 142, 143, 144, 145, 146, 147, 148, 149, 150, 151, 152, 153, 1, 154, 155, 156, 157, 158, 159, 160, 175, 176, 177, 178, 161, 162, 163, 164, 165, 166, 167, 168, 169, 170, 171, 172, 173, 174] (by decide +kernel) (by decide +kernel)
set_option maxRecDepth 20000 in
theorem gX13_failsOfRuns_X13_runsOf : GoodIn wsX13_failsOfRuns (wsV RX13 138 RX13 yX13_runsOf wsX13_runsOf) := goodIn_app (goodIn_of _ (by decide +kernel)) ggX13_failsOfRuns_X13_runsOf
theorem dX13_failsOfRuns_37 : decode cX13_failsOfRuns 37 = .ok (.invokevirtual 138, 3) := by decide +kernel
theorem dX13_failsOfRuns_40 : decode cX13_failsOfRuns 40 = .ok (.astore 4, 2) := by decide +kernel
theorem dX13_failsOfRuns_42 : decode cX13_failsOfRuns 42 = .ok (.aload_n 0, 1) := by decide +kernel
theorem dX13_failsOfRuns_43 : decode cX13_failsOfRuns 43 = .ok (.aload_n 2, 1) := by decide +kernel
theorem dX13_failsOfRuns_44 : decode cX13_failsOfRuns 44 = .ok (.aload_n 3, 1) := by decide +kernel
theorem dX13_failsOfRuns_45 : decode cX13_failsOfRuns 45 = .ok (.invokevirtual 138, 3) := by decide +kernel
set_option maxRecDepth 20000 in
theorem ggX13_failsOfRuns_Jx4a65c_size_8abf5 : GoodIn wsX13_failsOfRuns wsJx4a65c_size_8abf5 := goodIn_r _ [116, 61, 175, 176, 177] (by decide +kernel) (by decide +kernel)
set_option maxRecDepth 20000 in
theorem gX13_failsOfRuns_Jx4a65c_size_8abf5_f79Jx4a65c : GoodIn wsX13_failsOfRuns (va_wsF RX13 79 RJx4a65c ⟨"java/util/List", "size", "()I"⟩ yJx4a65c_size_8abf5 wsJx4a65c_size_8abf5) := goodIn_app (goodIn_of _ (by decide +kernel)) ggX13_failsOfRuns_Jx4a65c_size_8abf5
theorem dX13_failsOfRuns_48 : decode cX13_failsOfRuns 48 = .ok (.invokeinterface 79 1, 5) := by decide +kernel
theorem dX13_failsOfRuns_53 : decode cX13_failsOfRuns 53 = .ok (.iconst 1, 1) := by decide +kernel
theorem dX13_failsOfRuns_54 : decode cX13_failsOfRuns 54 = .ok (.if_icmp .gt 7, 3) := by decide +kernel
theorem dX13_failsOfRuns_57 : decode cX13_failsOfRuns 57 = .ok (.iconst 0, 1) := by decide +kernel
theorem dX13_failsOfRuns_58 : decode cX13_failsOfRuns 58 = .ok (.goto 4, 3) := by decide +kernel
theorem dX13_failsOfRuns_62 : decode cX13_failsOfRuns 62 = .ok (.istore 5, 2) := by decide +kernel
theorem dX13_failsOfRuns_64 : decode cX13_failsOfRuns 64 = .ok (.iconst 0, 1) := by decide +kernel
theorem dX13_failsOfRuns_65 : decode cX13_failsOfRuns 65 = .ok (.istore 6, 2) := by decide +kernel
theorem dX13_failsOfRuns_67 : decode cX13_failsOfRuns 67 = .ok (.iload 6, 2) := by decide +kernel
theorem dX13_failsOfRuns_69 : decode cX13_failsOfRuns 69 = .ok (.aload 4, 2) := by decide +kernel
theorem dX13_failsOfRuns_71 : decode cX13_failsOfRuns 71 = .ok (.invokeinterface 79 1, 5) := by decide +kernel
theorem dX13_failsOfRuns_76 : decode cX13_failsOfRuns 76 = .ok (.iconst 1, 1) := by decide +kernel
theorem dX13_failsOfRuns_77 : decode cX13_failsOfRuns 77 = .ok (.isub, 1) := by decide +kernel
theorem dX13_failsOfRuns_78 : decode cX13_failsOfRuns 78 = .ok (.if_icmp .ge 41, 3) := by decide +kernel
theorem dX13_failsOfRuns_119 : decode cX13_failsOfRuns 119 = .ok (.aload_n 3, 1) := by decide +kernel
theorem dX13_failsOfRuns_120 : decode cX13_failsOfRuns 120 = .ok (.iconst 1, 1) := by decide +kernel
theorem dX13_failsOfRuns_121 : decode cX13_failsOfRuns 121 = .ok (.iconst 2, 1) := by decide +kernel
theorem dX13_failsOfRuns_122 : decode cX13_failsOfRuns 122 = .ok (.iastore, 1) := by decide +kernel
theorem dX13_failsOfRuns_123 : decode cX13_failsOfRuns 123 = .ok (.iload 5, 2) := by decide +kernel
theorem dX13_failsOfRuns_125 : decode cX13_failsOfRuns 125 = .ok (.aload_n 0, 1) := by decide +kernel
theorem dX13_failsOfRuns_126 : decode cX13_failsOfRuns 126 = .ok (.aload_n 1, 1) := by decide +kernel
theorem dX13_failsOfRuns_127 : decode cX13_failsOfRuns 127 = .ok (.aload_n 3, 1) := by decide +kernel
theorem dX13_failsOfRuns_128 : decode cX13_failsOfRuns 128 = .ok (.invokevirtual 138, 3) := by decide +kernel
theorem dX13_failsOfRuns_131 : decode cX13_failsOfRuns 131 = .ok (.invokeinterface 79 1, 5) := by decide +kernel
theorem dX13_failsOfRuns_136 : decode cX13_failsOfRuns 136 = .ok (.aload 4, 2) := by decide +kernel
theorem dX13_failsOfRuns_138 : decode cX13_failsOfRuns 138 = .ok (.invokeinterface 79 1, 5) := by decide +kernel
theorem dX13_failsOfRuns_143 : decode cX13_failsOfRuns 143 = .ok (.if_icmp .lt 7, 3) := by decide +kernel
theorem dX13_failsOfRuns_146 : decode cX13_failsOfRuns 146 = .ok (.iconst 0, 1) := by decide +kernel
theorem dX13_failsOfRuns_147 : decode cX13_failsOfRuns 147 = .ok (.goto 4, 3) := by decide +kernel
theorem dX13_failsOfRuns_151 : decode cX13_failsOfRuns 151 = .ok (.iadd, 1) := by decide +kernel
theorem dX13_failsOfRuns_152 : decode cX13_failsOfRuns 152 = .ok (.ireturn, 1) := by decide +kernel
set_option maxHeartbeats 4000000 in
set_option maxRecDepth 100000 in
theorem c_X13_part (l : Launch) (dC : Nat → ClassId) (dI : Nat → Nat → Nat) (g : Nat → ClassId) (rw_ : Nat) (fr : Nat → Int32) (sz : Nat) : Met l yX13_part wsX13_part ({ frames := 0, cells := 1, slots := 0, locals := 0 }) (va_Pc [.ref rw_, .int 0, .int 0] (PG (dC, dI) g [(rw_, .inl (g 0, 0, .inl fr))] sz)) (va_Qq (fun (r : Option Nat) (u : Nat → Nat) => r = some (u 0)) (fun (u : Nat → Nat) t9 => va_P (dC, dI) vwCl [(rw_, .inl (g 0, 0, .inl fr)), ((u 0), .inl (g 0, 0, .inl (fun _ => 0)))] t9.heap ∧ va_D (va_A [(rw_, .inl (g 0, 0, .inl fr))] sz) [(rw_, .inl (g 0, 0, .inl fr)), ((u 0), .inl (g 0, 0, .inl (fun _ => 0)))]) (va_A [(rw_, .inl (g 0, 0, .inl fr))] sz)) 1 0 (va_A [(rw_, .inl (g 0, 0, .inl fr))] sz) := by
  refine Met.ofW (cc := cX13_part) (maxL := 5) (ret := (some (.array .int))) (by decide) rfl ?_
  intro p e s m args below meth c s₁ B hml hv
  obtain ⟨rfl, hsz, hP, hK, hD0, hG⟩ := hv
  have hx := B.exec
  have hb := B.bytes
  have hr := B.returns
  have hts := atoms_spec (ws := wsX13_part) B.pre
  have hown : s.vm.findClass RX13 = some m.cls := findClass_of_methodNamed B.named
  have hlocks := B.notSynchronized
  subst hsz
  have hD := hD0.self (sz := s.heap.size)
  generalize hAe : va_A [(rw_, .inl (g 0, 0, .inl fr))] s.heap.size = A at hD hG ⊢
  have hA : ∀ q : Nat, s.heap.size ≤ q → A q := fun q h => by rw [← hAe]; exact Or.inr h
  have hS : va_S A s.heap s.heap [] := va_S.rf
  have hl := lv_entry ([.ref rw_, .int 0, .int 0]) (n := 5) (Nat.le_of_ble_eq_true rfl)
  rw [lg_entry_eq]
  generalize (lg_sl ([.ref rw_, .int 0, .int 0]) ++ List.replicate (5 - (lg_sl ([.ref rw_, .int 0, .int 0])).length) Slot.unset).toArray = ls at hl ⊢
  have hl : lv_has ls 5 [(0, .ref rw_), (1, .int 0), (2, .int 0)] := hl
  have hnaint := hts (Cond.arrayClass (newarray.typeOf .int)) (by decide +kernel)
  refine lv_iload_n hx hb dX13_part_0 rfl (lv_at hl 2 rfl) ?_
  refine lv_iload_n hx hb dX13_part_1 rfl (lv_at hl 1 rfl) ?_
  refine lv_isub hx hb dX13_part_2 ?_
  refine lv_topi (fun x_1 ex_1 => ?_)
  obtain rfl : x_1 = 0 := ex_1.trans (by decide)
  refine va_newa (atype := .int) (a0 := (0, .inl (fun _ => 0))) hx hb hnaint rfl hK hP hD hS hA (fun _ => rfl) (by decide) (N' := 0) (by decide) (Nat.le_of_ble_eq_true rfl) (Nat.le_of_ble_eq_true rfl) (Nat.le_of_ble_eq_true rfl) dX13_part_3 (fun q_2 cA_4 H_3 hK9 hP hD hS => ?_)
  obtain rfl : g 0 = cA_4 := K_one hK9 0 6 rfl rfl
  have hP : va_P (dC, dI) vwCl [(rw_, .inl (g 0, 0, .inl fr)), (q_2, .inl (g 0, 0, .inl (fun _ => 0)))] H_3 := hP
  have hD : va_D A [(rw_, .inl (g 0, 0, .inl fr)), (q_2, .inl (g 0, 0, .inl (fun _ => 0)))] := hD
  refine W.widen (k := 1) (n := 0) (by omega) (by omega) ?_
  refine lv_astore_n (lv' := [(3, .ref q_2), (0, .ref rw_), (1, .int 0), (2, .int 0)]) hx hb dX13_part_5 rfl hl (by decide) rfl (fun ls hl => ?_)
  refine lv_iload_n hx hb dX13_part_6 rfl (lv_at hl 2 rfl) ?_
  refine lv_istore (lv' := [(4, .int 0), (3, .ref q_2), (0, .ref rw_), (1, .int 0), (2, .int 0)]) hx hb dX13_part_7 hl (by decide) rfl (fun ls hl => ?_)
  refine lv_iload hx hb dX13_part_9 (lv_at hl 0 rfl) ?_
  refine lv_iload_n hx hb dX13_part_11 rfl (lv_at hl 4 rfl) ?_
  refine lv_icmp_ge (tgt := 31) hx hb dX13_part_12 (by decide) (fun c_5 => ?_) (fun c_5 => absurd (by decide) c_5)
  refine lv_aload_n hx hb dX13_part_31 rfl (lv_at hl 1 rfl) ?_
  have hP9 := hP.sub (ws' := [(rw_, .inl (g 0, 0, .inl fr)), (q_2, .inl (g 0, 0, .inl (fun _ => 0)))]) [0, 1] rfl
  have hD9 := hD.sub (ws' := [(rw_, .inl (g 0, 0, .inl fr)), (q_2, .inl (g 0, 0, .inl (fun _ => 0)))]) [0, 1] (by decide) rfl
  exact W.aret (v := .ref q_2) hx hb hr (Or.inr ⟨_, rfl⟩) (Or.inr ⟨_, rfl⟩) (fun t ht hW => ⟨⟨some q_2, (fun j => ([q_2] : List Nat).getD j 0), rfl, rfl, ⟨P_at ht hP9, hD9⟩⟩, hS.F ht⟩) hS.2.2 dX13_part_32
set_option maxHeartbeats 4000000 in
set_option maxRecDepth 100000 in
theorem c_X13_areSame (l : Launch) (dC : Nat → ClassId) (dI : Nat → Nat → Nat) (g : Nat → ClassId) (Wd : va_W) (ra : Nat) (rb : Nat) (fa : Nat → Int32) (fb : Nat → Int32) (k0 : Nat) (w0 : Wd[k0]? = some (ra, .inl (g 0, 0, .inl fa))) (k1 : Nat) (w1 : Wd[k1]? = some (rb, .inl (g 0, 0, .inl fb))) (sz : Nat) : Met l yX13_areSame wsX13_areSame ({ frames := 0, cells := 0, slots := 0, locals := 0 }) (va_Pc [.ref ra, .ref rb] (PG (dC, dI) g Wd sz)) (va_Qi (fun (r : Int32) (_ : Unit) => r = 1) (fun (_ : Unit) t => va_P (dC, dI) vwCl Wd t.heap) (va_A Wd sz)) 0 0 (va_A Wd sz) := by
  refine Met.ofW (cc := cX13_areSame) (maxL := 3) (ret := (some .boolean)) (by decide) rfl ?_
  intro p e s m args below meth c s₁ B hml hv
  obtain ⟨rfl, hsz, hP, hK, hD0, hG⟩ := hv
  have hx := B.exec
  have hb := B.bytes
  have hr := B.returns
  have hts := atoms_spec (ws := wsX13_areSame) B.pre
  have hown : s.vm.findClass RX13 = some m.cls := findClass_of_methodNamed B.named
  have hlocks := B.notSynchronized
  subst hsz
  have hD := hD0.self (sz := s.heap.size)
  generalize hAe : va_A Wd s.heap.size = A at hD hG ⊢
  have hA : ∀ q : Nat, s.heap.size ≤ q → A q := fun q h => by rw [← hAe]; exact Or.inr h
  have hS : va_S A s.heap s.heap [] := va_S.rf
  have hl := lv_entry ([.ref ra, .ref rb]) (n := 3) (Nat.le_of_ble_eq_true rfl)
  rw [lg_entry_eq]
  generalize (lg_sl ([.ref ra, .ref rb]) ++ List.replicate (3 - (lg_sl ([.ref ra, .ref rb])).length) Slot.unset).toArray = ls at hl ⊢
  have hl : lv_has ls 3 [(0, .ref ra), (1, .ref rb)] := hl
  refine lv_aload_n hx hb dX13_areSame_0 rfl (lv_at hl 0 rfl) ?_
  refine va_alen hx hb hK hP k0 0 w0 rfl (v := 0) rfl dX13_areSame_1 ?_
  refine lv_aload_n hx hb dX13_areSame_2 rfl (lv_at hl 1 rfl) ?_
  refine va_alen hx hb hK hP k1 0 w1 rfl (v := 0) rfl dX13_areSame_3 ?_
  refine lv_icmp_eq (tgt := 9) hx hb dX13_areSame_4 (by decide) (fun c_1 => ?_) (fun c_1 => absurd (by decide) c_1)
  refine lv_iconst (v := 0) hx hb dX13_areSame_9 (by decide) ?_
  refine lv_istore_n (lv' := [(2, .int 0), (0, .ref ra), (1, .ref rb)]) hx hb dX13_areSame_10 rfl hl (by decide) rfl (fun ls hl => ?_)
  refine lv_iload_n hx hb dX13_areSame_11 rfl (lv_at hl 0 rfl) ?_
  refine lv_aload_n hx hb dX13_areSame_12 rfl (lv_at hl 1 rfl) ?_
  refine va_alen hx hb hK hP k0 0 w0 rfl (v := 0) rfl dX13_areSame_13 ?_
  refine lv_icmp_ge (tgt := 34) hx hb dX13_areSame_14 (by decide) (fun c_2 => ?_) (fun c_2 => absurd (by decide) c_2)
  refine lv_iconst (v := 1) hx hb dX13_areSame_34 (by decide) ?_
  exact W.zret (v := 1) hx hb hr rfl (fun t ht hW => ⟨⟨1, (), rfl, rfl, P_at ht hP⟩, hS.F ht⟩) hS.2.2 dX13_areSame_35
set_option maxHeartbeats 4000000 in
set_option maxRecDepth 100000 in
theorem c_X13_failsOfRuns (l : Launch) (dC : Nat → ClassId) (dI : Nat → Nat → Nat) (g : Nat → ClassId) (mo : Nat) (ra : Nat) (rb : Nat) (fa : Nat → Int32) (fb : Nat → Int32) (fs : Nat → Int32) (m0 : Int32) (m1 : Nat) (m2 : Nat) (m3 : Int32) (m4 : Nat) (m5 : Nat) (m6 : Nat) (m7 : Option Nat) (m8 : Nat) (m9 : Int32) (m10 : Int32) (m11 : Int32) (m12 : Int32) (m13 : Int32) (hs0 : fs (0 : Int32).toNatClampNeg = 0) (hs1 : fs (1 : Int32).toNatClampNeg = 1) (hs2 : fs (2 : Int32).toNatClampNeg = 4) (hs3 : fs (3 : Int32).toNatClampNeg = 0) (hs4 : fs (4 : Int32).toNatClampNeg = 2) (sz : Nat) : Met l yX13_failsOfRuns wsX13_failsOfRuns ({ frames := 6, cells := 12, slots := 40, locals := 128 }) (va_Pc [.ref mo, .ref ra, .ref rb] (PG (dC, dI) g [(mo, .inr (15, [.int m0, .ref m1, .ref m2, .int m3, .ref m4, .ref m5, .ref m6, va_rf (m7), .ref m8, .int m9, .int m10, .int m11, .int m12, .int m13])), (ra, .inl (g 0, 0, .inl fa)), (rb, .inl (g 0, 0, .inl fb)), (m6, .inl (g 0, 5, .inl fs))] sz)) (va_Qi (fun (r : Int32) (_ : Nat → Nat) => r = 0) (fun (u : Nat → Nat) t9 => va_P (dC, dI) vwCl [(mo, .inr (15, [.int m0, .ref m1, .ref m2, .int m3, .ref m4, .ref m5, .ref m6, va_rf (m7), .ref m8, .int m9, .int m10, .int m11, .int m12, .int m13])), (ra, .inl (g 0, 0, .inl fa)), (rb, .inl (g 0, 0, .inl fb)), (m6, .inl (g 0, 5, .inl fs))] t9.heap ∧ va_D (va_A [(mo, .inr (15, [.int m0, .ref m1, .ref m2, .int m3, .ref m4, .ref m5, .ref m6, va_rf (m7), .ref m8, .int m9, .int m10, .int m11, .int m12, .int m13])), (ra, .inl (g 0, 0, .inl fa)), (rb, .inl (g 0, 0, .inl fb)), (m6, .inl (g 0, 5, .inl fs))] sz) [(mo, .inr (15, [.int m0, .ref m1, .ref m2, .int m3, .ref m4, .ref m5, .ref m6, va_rf (m7), .ref m8, .int m9, .int m10, .int m11, .int m12, .int m13])), (ra, .inl (g 0, 0, .inl fa)), (rb, .inl (g 0, 0, .inl fb)), (m6, .inl (g 0, 5, .inl fs))]) (va_A [(mo, .inr (15, [.int m0, .ref m1, .ref m2, .int m3, .ref m4, .ref m5, .ref m6, va_rf (m7), .ref m8, .int m9, .int m10, .int m11, .int m12, .int m13])), (ra, .inl (g 0, 0, .inl fa)), (rb, .inl (g 0, 0, .inl fb)), (m6, .inl (g 0, 5, .inl fs))] sz)) 12 40 (va_A [(mo, .inr (15, [.int m0, .ref m1, .ref m2, .int m3, .ref m4, .ref m5, .ref m6, va_rf (m7), .ref m8, .int m9, .int m10, .int m11, .int m12, .int m13])), (ra, .inl (g 0, 0, .inl fa)), (rb, .inl (g 0, 0, .inl fb)), (m6, .inl (g 0, 5, .inl fs))] sz) := by
  refine Met.ofW (cc := cX13_failsOfRuns) (maxL := 7) (ret := (some .int)) (by decide) rfl ?_
  intro p e s m args below meth c s₁ B hml hv
  obtain ⟨rfl, hsz, hP, hK, hD0, hG⟩ := hv
  have hx := B.exec
  have hb := B.bytes
  have hr := B.returns
  have hts := atoms_spec (ws := wsX13_failsOfRuns) B.pre
  have hown : s.vm.findClass RX13 = some m.cls := findClass_of_methodNamed B.named
  have hlocks := B.notSynchronized
  subst hsz
  have hD := hD0.self (sz := s.heap.size)
  generalize hAe : va_A [(mo, .inr (15, [.int m0, .ref m1, .ref m2, .int m3, .ref m4, .ref m5, .ref m6, va_rf (m7), .ref m8, .int m9, .int m10, .int m11, .int m12, .int m13])), (ra, .inl (g 0, 0, .inl fa)), (rb, .inl (g 0, 0, .inl fb)), (m6, .inl (g 0, 5, .inl fs))] s.heap.size = A at hD hG ⊢
  have hA : ∀ q : Nat, s.heap.size ≤ q → A q := fun q h => by rw [← hAe]; exact Or.inr h
  have hS : va_S A s.heap s.heap [] := va_S.rf
  have hl := lv_entry ([.ref mo, .ref ra, .ref rb]) (n := 7) (Nat.le_of_ble_eq_true rfl)
  rw [lg_entry_eq]
  generalize (lg_sl ([.ref mo, .ref ra, .ref rb]) ++ List.replicate (7 - (lg_sl ([.ref mo, .ref ra, .ref rb])).length) Slot.unset).toArray = ls at hl ⊢
  have hl : lv_has ls 7 [(0, .ref mo), (1, .ref ra), (2, .ref rb)] := hl
  have hnaint := hts (Cond.arrayClass (newarray.typeOf .int)) (by decide +kernel)
  have hf35 := hts (Cond.fieldLink RX13 35 "RunmergeOfficeModel" "settings" "[I") (by decide +kernel)
  have hiX13 : ∀ w ∈ u_ws RX13 TX13 14, w ∈ wsX13_failsOfRuns := by decide +kernel
  refine lv_iconst (v := 5) hx hb dX13_failsOfRuns_0 (by decide) ?_
  refine va_newa (atype := .int) (a0 := (5, .inl (fun _ => 0))) hx hb hnaint rfl hK hP hD hS hA (fun _ => rfl) (by decide) (N' := 5) (by decide) (Nat.le_of_ble_eq_true rfl) (Nat.le_of_ble_eq_true rfl) (Nat.le_of_ble_eq_true rfl) dX13_failsOfRuns_1 (fun q_1 cA_3 H_2 hK9 hP hD hS => ?_)
  obtain rfl : g 0 = cA_3 := K_one hK9 0 6 rfl rfl
  have hP : va_P (dC, dI) vwCl [(mo, .inr (15, [.int m0, .ref m1, .ref m2, .int m3, .ref m4, .ref m5, .ref m6, va_rf (m7), .ref m8, .int m9, .int m10, .int m11, .int m12, .int m13])), (ra, .inl (g 0, 0, .inl fa)), (rb, .inl (g 0, 0, .inl fb)), (m6, .inl (g 0, 5, .inl fs)), (q_1, .inl (g 0, 5, .inl (fun _ => 0)))] H_2 := hP
  have hD : va_D A [(mo, .inr (15, [.int m0, .ref m1, .ref m2, .int m3, .ref m4, .ref m5, .ref m6, va_rf (m7), .ref m8, .int m9, .int m10, .int m11, .int m12, .int m13])), (ra, .inl (g 0, 0, .inl fa)), (rb, .inl (g 0, 0, .inl fb)), (m6, .inl (g 0, 5, .inl fs)), (q_1, .inl (g 0, 5, .inl (fun _ => 0)))] := hD
  refine W.widen (k := 1) (n := 5) (by omega) (by omega) ?_
  refine lv_dup hx hb dX13_failsOfRuns_3 rfl ?_
  refine lv_iconst (v := 0) hx hb dX13_failsOfRuns_4 (by decide) ?_
  refine lv_aload_n hx hb dX13_failsOfRuns_5 rfl (lv_at hl 0 rfl) ?_
  refine va_get (D := (dC, dI)) (ci := 15) (v := .ref m6) (C := RX13) (T := TX13) (N := 14) hx hb hts hiX13 hown hK hP 0 rfl rfl 6 (by decide) hf35 (fun _ h9 => h9) rfl dX13_failsOfRuns_6 ?_
  refine lv_iconst (v := 0) hx hb dX13_failsOfRuns_9 (by decide) ?_
  refine va_iald hx hb hK hP 3 0 rfl rfl (by unfold vp_in; decide) dX13_failsOfRuns_10 ?_
  refine lv_topi (fun x_4 ex_4 => ?_)
  obtain rfl : x_4 = 0 := ex_4.trans hs0
  refine va_iast hx hb hK hP hD hS 4 0 rfl rfl (by unfold vp_in; decide) dX13_failsOfRuns_11 (fun H_5 L_6 hP hD hS => ?_)
  have hP : va_P (dC, dI) vwCl [(mo, .inr (15, [.int m0, .ref m1, .ref m2, .int m3, .ref m4, .ref m5, .ref m6, va_rf (m7), .ref m8, .int m9, .int m10, .int m11, .int m12, .int m13])), (ra, .inl (g 0, 0, .inl fa)), (rb, .inl (g 0, 0, .inl fb)), (m6, .inl (g 0, 5, .inl fs)), (q_1, .inl (g 0, 5, .inl (upd (fun _ => 0) (0 : Int32).toNatClampNeg 0)))] H_5 := hP
  have hD : va_D A [(mo, .inr (15, [.int m0, .ref m1, .ref m2, .int m3, .ref m4, .ref m5, .ref m6, va_rf (m7), .ref m8, .int m9, .int m10, .int m11, .int m12, .int m13])), (ra, .inl (g 0, 0, .inl fa)), (rb, .inl (g 0, 0, .inl fb)), (m6, .inl (g 0, 5, .inl fs)), (q_1, .inl (g 0, 5, .inl (upd (fun _ => 0) (0 : Int32).toNatClampNeg 0)))] := hD
  refine lv_dup hx hb dX13_failsOfRuns_12 rfl ?_
  refine lv_iconst (v := 1) hx hb dX13_failsOfRuns_13 (by decide) ?_
  refine lv_iconst (v := 1) hx hb dX13_failsOfRuns_14 (by decide) ?_
  refine va_iast hx hb hK hP hD hS 4 0 rfl rfl (by unfold vp_in; decide) dX13_failsOfRuns_15 (fun H_7 L_8 hP hD hS => ?_)
  have hP : va_P (dC, dI) vwCl [(mo, .inr (15, [.int m0, .ref m1, .ref m2, .int m3, .ref m4, .ref m5, .ref m6, va_rf (m7), .ref m8, .int m9, .int m10, .int m11, .int m12, .int m13])), (ra, .inl (g 0, 0, .inl fa)), (rb, .inl (g 0, 0, .inl fb)), (m6, .inl (g 0, 5, .inl fs)), (q_1, .inl (g 0, 5, .inl (upd (upd (fun _ => 0) (0 : Int32).toNatClampNeg 0) (1 : Int32).toNatClampNeg 1)))] H_7 := hP
  have hD : va_D A [(mo, .inr (15, [.int m0, .ref m1, .ref m2, .int m3, .ref m4, .ref m5, .ref m6, va_rf (m7), .ref m8, .int m9, .int m10, .int m11, .int m12, .int m13])), (ra, .inl (g 0, 0, .inl fa)), (rb, .inl (g 0, 0, .inl fb)), (m6, .inl (g 0, 5, .inl fs)), (q_1, .inl (g 0, 5, .inl (upd (upd (fun _ => 0) (0 : Int32).toNatClampNeg 0) (1 : Int32).toNatClampNeg 1)))] := hD
  refine lv_dup hx hb dX13_failsOfRuns_16 rfl ?_
  refine lv_iconst (v := 2) hx hb dX13_failsOfRuns_17 (by decide) ?_
  refine lv_aload_n hx hb dX13_failsOfRuns_18 rfl (lv_at hl 0 rfl) ?_
  refine va_get (D := (dC, dI)) (ci := 15) (v := .ref m6) (C := RX13) (T := TX13) (N := 14) hx hb hts hiX13 hown hK hP 0 rfl rfl 6 (by decide) hf35 (fun _ h9 => h9) rfl dX13_failsOfRuns_19 ?_
  refine lv_iconst (v := 2) hx hb dX13_failsOfRuns_22 (by decide) ?_
  refine va_iald hx hb hK hP 3 0 rfl rfl (by unfold vp_in; decide) dX13_failsOfRuns_23 ?_
  refine lv_topi (fun x_9 ex_9 => ?_)
  obtain rfl : x_9 = 4 := ex_9.trans hs2
  refine va_iast hx hb hK hP hD hS 4 0 rfl rfl (by unfold vp_in; decide) dX13_failsOfRuns_24 (fun H_10 L_11 hP hD hS => ?_)
  have hP : va_P (dC, dI) vwCl [(mo, .inr (15, [.int m0, .ref m1, .ref m2, .int m3, .ref m4, .ref m5, .ref m6, va_rf (m7), .ref m8, .int m9, .int m10, .int m11, .int m12, .int m13])), (ra, .inl (g 0, 0, .inl fa)), (rb, .inl (g 0, 0, .inl fb)), (m6, .inl (g 0, 5, .inl fs)), (q_1, .inl (g 0, 5, .inl (upd (upd (upd (fun _ => 0) (0 : Int32).toNatClampNeg 0) (1 : Int32).toNatClampNeg 1) (2 : Int32).toNatClampNeg 4)))] H_10 := hP
  have hD : va_D A [(mo, .inr (15, [.int m0, .ref m1, .ref m2, .int m3, .ref m4, .ref m5, .ref m6, va_rf (m7), .ref m8, .int m9, .int m10, .int m11, .int m12, .int m13])), (ra, .inl (g 0, 0, .inl fa)), (rb, .inl (g 0, 0, .inl fb)), (m6, .inl (g 0, 5, .inl fs)), (q_1, .inl (g 0, 5, .inl (upd (upd (upd (fun _ => 0) (0 : Int32).toNatClampNeg 0) (1 : Int32).toNatClampNeg 1) (2 : Int32).toNatClampNeg 4)))] := hD
  refine lv_dup hx hb dX13_failsOfRuns_25 rfl ?_
  refine lv_iconst (v := 3) hx hb dX13_failsOfRuns_26 (by decide) ?_
  refine lv_iconst (v := 0) hx hb dX13_failsOfRuns_27 (by decide) ?_
  refine va_iast hx hb hK hP hD hS 4 0 rfl rfl (by unfold vp_in; decide) dX13_failsOfRuns_28 (fun H_12 L_13 hP hD hS => ?_)
  have hP : va_P (dC, dI) vwCl [(mo, .inr (15, [.int m0, .ref m1, .ref m2, .int m3, .ref m4, .ref m5, .ref m6, va_rf (m7), .ref m8, .int m9, .int m10, .int m11, .int m12, .int m13])), (ra, .inl (g 0, 0, .inl fa)), (rb, .inl (g 0, 0, .inl fb)), (m6, .inl (g 0, 5, .inl fs)), (q_1, .inl (g 0, 5, .inl (upd (upd (upd (upd (fun _ => 0) (0 : Int32).toNatClampNeg 0) (1 : Int32).toNatClampNeg 1) (2 : Int32).toNatClampNeg 4) (3 : Int32).toNatClampNeg 0)))] H_12 := hP
  have hD : va_D A [(mo, .inr (15, [.int m0, .ref m1, .ref m2, .int m3, .ref m4, .ref m5, .ref m6, va_rf (m7), .ref m8, .int m9, .int m10, .int m11, .int m12, .int m13])), (ra, .inl (g 0, 0, .inl fa)), (rb, .inl (g 0, 0, .inl fb)), (m6, .inl (g 0, 5, .inl fs)), (q_1, .inl (g 0, 5, .inl (upd (upd (upd (upd (fun _ => 0) (0 : Int32).toNatClampNeg 0) (1 : Int32).toNatClampNeg 1) (2 : Int32).toNatClampNeg 4) (3 : Int32).toNatClampNeg 0)))] := hD
  refine lv_dup hx hb dX13_failsOfRuns_29 rfl ?_
  refine lv_iconst (v := 4) hx hb dX13_failsOfRuns_30 (by decide) ?_
  refine lv_iconst (v := 2) hx hb dX13_failsOfRuns_31 (by decide) ?_
  refine va_iast hx hb hK hP hD hS 4 0 rfl rfl (by unfold vp_in; decide) dX13_failsOfRuns_32 (fun H_14 L_15 hP hD hS => ?_)
  have hP : va_P (dC, dI) vwCl [(mo, .inr (15, [.int m0, .ref m1, .ref m2, .int m3, .ref m4, .ref m5, .ref m6, va_rf (m7), .ref m8, .int m9, .int m10, .int m11, .int m12, .int m13])), (ra, .inl (g 0, 0, .inl fa)), (rb, .inl (g 0, 0, .inl fb)), (m6, .inl (g 0, 5, .inl fs)), (q_1, .inl (g 0, 5, .inl (upd (upd (upd (upd (upd (fun _ => 0) (0 : Int32).toNatClampNeg 0) (1 : Int32).toNatClampNeg 1) (2 : Int32).toNatClampNeg 4) (3 : Int32).toNatClampNeg 0) (4 : Int32).toNatClampNeg 2)))] H_14 := hP
  have hD : va_D A [(mo, .inr (15, [.int m0, .ref m1, .ref m2, .int m3, .ref m4, .ref m5, .ref m6, va_rf (m7), .ref m8, .int m9, .int m10, .int m11, .int m12, .int m13])), (ra, .inl (g 0, 0, .inl fa)), (rb, .inl (g 0, 0, .inl fb)), (m6, .inl (g 0, 5, .inl fs)), (q_1, .inl (g 0, 5, .inl (upd (upd (upd (upd (upd (fun _ => 0) (0 : Int32).toNatClampNeg 0) (1 : Int32).toNatClampNeg 1) (2 : Int32).toNatClampNeg 4) (3 : Int32).toNatClampNeg 0) (4 : Int32).toNatClampNeg 2)))] := hD
  refine lv_astore_n (lv' := [(3, .ref q_1), (0, .ref mo), (1, .ref ra), (2, .ref rb)]) hx hb dX13_failsOfRuns_33 rfl hl (by decide) rfl (fun ls hl => ?_)
  refine lv_aload_n hx hb dX13_failsOfRuns_34 rfl (lv_at hl 1 rfl) ?_
  refine lv_aload_n hx hb dX13_failsOfRuns_35 rfl (lv_at hl 2 rfl) ?_
  refine lv_aload_n hx hb dX13_failsOfRuns_36 rfl (lv_at hl 0 rfl) ?_
  have hPc := hP.sub (ws' := [(mo, .inr (15, [.int m0, .ref m1, .ref m2, .int m3, .ref m4, .ref m5, .ref m6, va_rf (m7), .ref m8, .int m9, .int m10, .int m11, .int m12, .int m13])), (ra, .inl (g 0, 0, .inl fa)), (q_1, .inl (g 0, 5, .inl (upd (upd (upd (upd (upd (fun _ => 0) (0 : Int32).toNatClampNeg 0) (1 : Int32).toNatClampNeg 1) (2 : Int32).toNatClampNeg 4) (3 : Int32).toNatClampNeg 0) (4 : Int32).toNatClampNeg 2)))]) [0, 1, 4] rfl
  have hDc := hD.sub (ws' := [(mo, .inr (15, [.int m0, .ref m1, .ref m2, .int m3, .ref m4, .ref m5, .ref m6, va_rf (m7), .ref m8, .int m9, .int m10, .int m11, .int m12, .int m13])), (ra, .inl (g 0, 0, .inl fa)), (q_1, .inl (g 0, 5, .inl (upd (upd (upd (upd (upd (fun _ => 0) (0 : Int32).toNatClampNeg 0) (1 : Int32).toNatClampNeg 1) (2 : Int32).toNatClampNeg 4) (3 : Int32).toNatClampNeg 0) (4 : Int32).toNatClampNeg 2)))]) [0, 1, 4] (by decide) rfl
  have hFc := va_free (wc := [(mo, .inr (15, [.int m0, .ref m1, .ref m2, .int m3, .ref m4, .ref m5, .ref m6, va_rf (m7), .ref m8, .int m9, .int m10, .int m11, .int m12, .int m13])), (ra, .inl (g 0, 0, .inl fa)), (q_1, .inl (g 0, 5, .inl (upd (upd (upd (upd (upd (fun _ => 0) (0 : Int32).toNatClampNeg 0) (1 : Int32).toNatClampNeg 1) (2 : Int32).toNatClampNeg 4) (3 : Int32).toNatClampNeg 0) (4 : Int32).toNatClampNeg 2)))]) hD hS hA [0, 1, 4] rfl
  refine va_callq (va_runV (As := [.ref ra, .ref q_1]) (rest := []) ⟨hx, hb, hml, hown, hts⟩ (c_X13_runsOf_1 l dC dI g mo ra q_1 fa (upd (upd (upd (upd (upd (fun _ => 0) (0 : Int32).toNatClampNeg 0) (1 : Int32).toNatClampNeg 1) (2 : Int32).toNatClampNeg 4) (3 : Int32).toNatClampNeg 0) (4 : Int32).toNatClampNeg 2) m0 m1 m2 m3 m4 m5 m6 m7 m8 m9 m10 m11 m12 m13 (by decide) (by decide) H_14.size) (cwV 2 hts gX13_failsOfRuns_X13_runsOf rfl rfl rfl (by decide +kernel) ⟨Nat.le_of_ble_eq_true rfl, Nat.le_of_ble_eq_true rfl⟩) ⟨PG_blind, va_recv hK hP (ci := 15) (q0 := 0) rfl rfl, PG_call hK hG hS hPc hDc hFc⟩ rfl rfl hl.1 rfl (lv_room (Nat.le_of_ble_eq_true rfl)) dX13_failsOfRuns_37 ⟨Nat.le_of_ble_eq_true rfl, Nat.le_of_ble_eq_true rfl⟩) hS (fun q _ h => hFc q h) hFc (fun r_16 u_16 t_16 H_16 L_16 ht_16 hvm_16 hw_16 hB_16 hz_16 hk_16 hS => ?_)
  obtain ⟨hP1, hD1⟩ := hB_16
  rw [ht_16] at hP1
  obtain ⟨hP, hD⟩ := va_join (wr := [(rb, .inl (g 0, 0, .inl fb)), (m6, .inl (g 0, 5, .inl fs))]) (w1 := [(mo, .inr (15, [.int m0, .ref m1, .ref m2, .int m3, .ref m4, .ref m5, .ref m6, va_rf (m7), .ref m8, .int m9, .int m10, .int m11, .int m12, .int m13])), (ra, .inl (g 0, 0, .inl fa)), (q_1, .inl (g 0, 5, .inl (upd (upd (upd (upd (upd (fun _ => 0) (0 : Int32).toNatClampNeg 0) (1 : Int32).toNatClampNeg 1) (2 : Int32).toNatClampNeg 4) (3 : Int32).toNatClampNeg 0) (4 : Int32).toNatClampNeg 2))), ((u_16 0), .inr (1, [.int 0, .ref (g 10), .int 0]))]) hP hD [0, 1, 4] [2, 3] rfl rfl (by decide) (by decide) hk_16 hFc hP1 hD1
  have hP : va_P (dC, dI) vwCl [(rb, .inl (g 0, 0, .inl fb)), (m6, .inl (g 0, 5, .inl fs)), (mo, .inr (15, [.int m0, .ref m1, .ref m2, .int m3, .ref m4, .ref m5, .ref m6, va_rf (m7), .ref m8, .int m9, .int m10, .int m11, .int m12, .int m13])), (ra, .inl (g 0, 0, .inl fa)), (q_1, .inl (g 0, 5, .inl (upd (upd (upd (upd (upd (fun _ => 0) (0 : Int32).toNatClampNeg 0) (1 : Int32).toNatClampNeg 1) (2 : Int32).toNatClampNeg 4) (3 : Int32).toNatClampNeg 0) (4 : Int32).toNatClampNeg 2))), ((u_16 0), .inr (1, [.int 0, .ref (g 10), .int 0]))] H_16 := hP
  have hD : va_D A [(rb, .inl (g 0, 0, .inl fb)), (m6, .inl (g 0, 5, .inl fs)), (mo, .inr (15, [.int m0, .ref m1, .ref m2, .int m3, .ref m4, .ref m5, .ref m6, va_rf (m7), .ref m8, .int m9, .int m10, .int m11, .int m12, .int m13])), (ra, .inl (g 0, 0, .inl fa)), (q_1, .inl (g 0, 5, .inl (upd (upd (upd (upd (upd (fun _ => 0) (0 : Int32).toNatClampNeg 0) (1 : Int32).toNatClampNeg 1) (2 : Int32).toNatClampNeg 4) (3 : Int32).toNatClampNeg 0) (4 : Int32).toNatClampNeg 2))), ((u_16 0), .inr (1, [.int 0, .ref (g 10), .int 0]))] := hD
  refine W.widen (k := 5) (n := 17) (by omega) (by omega) ?_
  obtain rfl : r_16 = some (u_16 0) := hw_16
  refine W.eq (g2 := F0 m 40 ls [.ref (u_16 0)]) rfl ?_
  refine lv_astore (lv' := [(4, .ref (u_16 0)), (3, .ref q_1), (0, .ref mo), (1, .ref ra), (2, .ref rb)]) hx hb dX13_failsOfRuns_40 hl (by decide) rfl (fun ls hl => ?_)
  refine lv_aload_n hx hb dX13_failsOfRuns_42 rfl (lv_at hl 2 rfl) ?_
  refine lv_aload_n hx hb dX13_failsOfRuns_43 rfl (lv_at hl 4 rfl) ?_
  refine lv_aload_n hx hb dX13_failsOfRuns_44 rfl (lv_at hl 1 rfl) ?_
  have hPc := hP.sub (ws' := [(mo, .inr (15, [.int m0, .ref m1, .ref m2, .int m3, .ref m4, .ref m5, .ref m6, va_rf (m7), .ref m8, .int m9, .int m10, .int m11, .int m12, .int m13])), (rb, .inl (g 0, 0, .inl fb)), (q_1, .inl (g 0, 5, .inl (upd (upd (upd (upd (upd (fun _ => 0) (0 : Int32).toNatClampNeg 0) (1 : Int32).toNatClampNeg 1) (2 : Int32).toNatClampNeg 4) (3 : Int32).toNatClampNeg 0) (4 : Int32).toNatClampNeg 2)))]) [2, 0, 4] rfl
  have hDc := hD.sub (ws' := [(mo, .inr (15, [.int m0, .ref m1, .ref m2, .int m3, .ref m4, .ref m5, .ref m6, va_rf (m7), .ref m8, .int m9, .int m10, .int m11, .int m12, .int m13])), (rb, .inl (g 0, 0, .inl fb)), (q_1, .inl (g 0, 5, .inl (upd (upd (upd (upd (upd (fun _ => 0) (0 : Int32).toNatClampNeg 0) (1 : Int32).toNatClampNeg 1) (2 : Int32).toNatClampNeg 4) (3 : Int32).toNatClampNeg 0) (4 : Int32).toNatClampNeg 2)))]) [2, 0, 4] (by decide) rfl
  have hFc := va_free (wc := [(mo, .inr (15, [.int m0, .ref m1, .ref m2, .int m3, .ref m4, .ref m5, .ref m6, va_rf (m7), .ref m8, .int m9, .int m10, .int m11, .int m12, .int m13])), (rb, .inl (g 0, 0, .inl fb)), (q_1, .inl (g 0, 5, .inl (upd (upd (upd (upd (upd (fun _ => 0) (0 : Int32).toNatClampNeg 0) (1 : Int32).toNatClampNeg 1) (2 : Int32).toNatClampNeg 4) (3 : Int32).toNatClampNeg 0) (4 : Int32).toNatClampNeg 2)))]) hD hS hA [2, 0, 4] rfl
  refine va_callq (va_runV (As := [.ref rb, .ref q_1]) (rest := []) ⟨hx, hb, hml, hown, hts⟩ (c_X13_runsOf_1 l dC dI g mo rb q_1 fb (upd (upd (upd (upd (upd (fun _ => 0) (0 : Int32).toNatClampNeg 0) (1 : Int32).toNatClampNeg 1) (2 : Int32).toNatClampNeg 4) (3 : Int32).toNatClampNeg 0) (4 : Int32).toNatClampNeg 2) m0 m1 m2 m3 m4 m5 m6 m7 m8 m9 m10 m11 m12 m13 (by decide) (by decide) H_16.size) (cwV 2 hts gX13_failsOfRuns_X13_runsOf rfl rfl rfl (by decide +kernel) ⟨Nat.le_of_ble_eq_true rfl, Nat.le_of_ble_eq_true rfl⟩) ⟨PG_blind, va_recv hK hP (ci := 15) (q0 := 2) rfl rfl, PG_call hK hG hS hPc hDc hFc⟩ rfl rfl hl.1 rfl (lv_room (Nat.le_of_ble_eq_true rfl)) dX13_failsOfRuns_45 ⟨Nat.le_of_ble_eq_true rfl, Nat.le_of_ble_eq_true rfl⟩) hS (fun q _ h => hFc q h) hFc (fun r_17 u_17 t_17 H_17 L_17 ht_17 hvm_17 hw_17 hB_17 hz_17 hk_17 hS => ?_)
  obtain ⟨hP1, hD1⟩ := hB_17
  rw [ht_17] at hP1
  obtain ⟨hP, hD⟩ := va_join (wr := [(m6, .inl (g 0, 5, .inl fs)), (ra, .inl (g 0, 0, .inl fa)), ((u_16 0), .inr (1, [.int 0, .ref (g 10), .int 0]))]) (w1 := [(mo, .inr (15, [.int m0, .ref m1, .ref m2, .int m3, .ref m4, .ref m5, .ref m6, va_rf (m7), .ref m8, .int m9, .int m10, .int m11, .int m12, .int m13])), (rb, .inl (g 0, 0, .inl fb)), (q_1, .inl (g 0, 5, .inl (upd (upd (upd (upd (upd (fun _ => 0) (0 : Int32).toNatClampNeg 0) (1 : Int32).toNatClampNeg 1) (2 : Int32).toNatClampNeg 4) (3 : Int32).toNatClampNeg 0) (4 : Int32).toNatClampNeg 2))), ((u_17 0), .inr (1, [.int 0, .ref (g 10), .int 0]))]) hP hD [2, 0, 4] [1, 3, 5] rfl rfl (by decide) (by decide) hk_17 hFc hP1 hD1
  have hP : va_P (dC, dI) vwCl [(m6, .inl (g 0, 5, .inl fs)), (ra, .inl (g 0, 0, .inl fa)), ((u_16 0), .inr (1, [.int 0, .ref (g 10), .int 0])), (mo, .inr (15, [.int m0, .ref m1, .ref m2, .int m3, .ref m4, .ref m5, .ref m6, va_rf (m7), .ref m8, .int m9, .int m10, .int m11, .int m12, .int m13])), (rb, .inl (g 0, 0, .inl fb)), (q_1, .inl (g 0, 5, .inl (upd (upd (upd (upd (upd (fun _ => 0) (0 : Int32).toNatClampNeg 0) (1 : Int32).toNatClampNeg 1) (2 : Int32).toNatClampNeg 4) (3 : Int32).toNatClampNeg 0) (4 : Int32).toNatClampNeg 2))), ((u_17 0), .inr (1, [.int 0, .ref (g 10), .int 0]))] H_17 := hP
  have hD : va_D A [(m6, .inl (g 0, 5, .inl fs)), (ra, .inl (g 0, 0, .inl fa)), ((u_16 0), .inr (1, [.int 0, .ref (g 10), .int 0])), (mo, .inr (15, [.int m0, .ref m1, .ref m2, .int m3, .ref m4, .ref m5, .ref m6, va_rf (m7), .ref m8, .int m9, .int m10, .int m11, .int m12, .int m13])), (rb, .inl (g 0, 0, .inl fb)), (q_1, .inl (g 0, 5, .inl (upd (upd (upd (upd (upd (fun _ => 0) (0 : Int32).toNatClampNeg 0) (1 : Int32).toNatClampNeg 1) (2 : Int32).toNatClampNeg 4) (3 : Int32).toNatClampNeg 0) (4 : Int32).toNatClampNeg 2))), ((u_17 0), .inr (1, [.int 0, .ref (g 10), .int 0]))] := hD
  refine W.widen (k := 9) (n := 29) (by omega) (by omega) ?_
  obtain rfl : r_17 = some (u_17 0) := hw_17
  refine W.eq (g2 := F0 m 48 ls [.ref (u_17 0)]) rfl ?_
  refine va_callFi (va_runF (As := []) (rest := []) (hK.1 1 _ rfl).2 ⟨hx, hb, hml, hown, hts⟩ (c_Jx4a65c_size_8abf5 l dC dI g [(m6, .inl (g 0, 5, .inl fs)), (ra, .inl (g 0, 0, .inl fa)), ((u_16 0), .inr (1, [.int 0, .ref (g 10), .int 0])), (mo, .inr (15, [.int m0, .ref m1, .ref m2, .int m3, .ref m4, .ref m5, .ref m6, va_rf (m7), .ref m8, .int m9, .int m10, .int m11, .int m12, .int m13])), (rb, .inl (g 0, 0, .inl fb)), (q_1, .inl (g 0, 5, .inl (upd (upd (upd (upd (upd (fun _ => 0) (0 : Int32).toNatClampNeg 0) (1 : Int32).toNatClampNeg 1) (2 : Int32).toNatClampNeg 4) (3 : Int32).toNatClampNeg 0) (4 : Int32).toNatClampNeg 2))), ((u_17 0), .inr (1, [.int 0, .ref (g 10), .int 0]))] (u_17 0) 0 0 (some (g 10)) 6 rfl  H_17.size) (va_cwF 0 hts gX13_failsOfRuns_Jx4a65c_size_8abf5_f79Jx4a65c rfl rfl rfl (fw_1 hG) (by decide +kernel) ⟨Nat.le_of_ble_eq_true rfl, Nat.le_of_ble_eq_true rfl⟩) ⟨PG_blind, va_recv hK hP (ci := 1) (q0 := 6) rfl rfl, PG_call hK hG hS hP hD (A_all hD hA hS.1)⟩ rfl rfl hl.1 rfl (lv_room (Nat.le_of_ble_eq_true rfl)) dX13_failsOfRuns_48 ⟨Nat.le_of_ble_eq_true rfl, Nat.le_of_ble_eq_true rfl⟩) hS (fun q _ h => (A_all hD hA hS.1) q h) (A_all hD hA hS.1) (fun r_18 u_18 t_18 H_18 L_18 ht_18 hvm_18 hw_18 hB_18 hz_18 hk_18 hS => ?_)
  replace hB_18 := (show va_P (dC, dI) vwCl [(m6, .inl (g 0, 5, .inl fs)), (ra, .inl (g 0, 0, .inl fa)), ((u_16 0), .inr (1, [.int 0, .ref (g 10), .int 0])), (mo, .inr (15, [.int m0, .ref m1, .ref m2, .int m3, .ref m4, .ref m5, .ref m6, va_rf (m7), .ref m8, .int m9, .int m10, .int m11, .int m12, .int m13])), (rb, .inl (g 0, 0, .inl fb)), (q_1, .inl (g 0, 5, .inl (upd (upd (upd (upd (upd (fun _ => 0) (0 : Int32).toNatClampNeg 0) (1 : Int32).toNatClampNeg 1) (2 : Int32).toNatClampNeg 4) (3 : Int32).toNatClampNeg 0) (4 : Int32).toNatClampNeg 2))), ((u_17 0), .inr (1, [.int 0, .ref (g 10), .int 0]))] t_18.heap from hB_18)
  rw [ht_18] at hB_18
  have hP := hB_18
  obtain rfl : r_18 = 0 := hw_18
  refine lv_iconst (v := 1) hx hb dX13_failsOfRuns_53 (by decide) ?_
  refine lv_icmp_gt (tgt := 61) hx hb dX13_failsOfRuns_54 (by decide) (fun c_19 => absurd c_19 (by decide)) (fun c_19 => ?_)
  refine lv_iconst (v := 0) hx hb dX13_failsOfRuns_57 (by decide) ?_
  refine lv_goto (tgt := 62) hx hb dX13_failsOfRuns_58 (by decide) ?_
  refine lv_istore (lv' := [(5, .int 0), (4, .ref (u_16 0)), (3, .ref q_1), (0, .ref mo), (1, .ref ra), (2, .ref rb)]) hx hb dX13_failsOfRuns_62 hl (by decide) rfl (fun ls hl => ?_)
  refine lv_iconst (v := 0) hx hb dX13_failsOfRuns_64 (by decide) ?_
  refine lv_istore (lv' := [(6, .int 0), (5, .int 0), (4, .ref (u_16 0)), (3, .ref q_1), (0, .ref mo), (1, .ref ra), (2, .ref rb)]) hx hb dX13_failsOfRuns_65 hl (by decide) rfl (fun ls hl => ?_)
  refine lv_iload hx hb dX13_failsOfRuns_67 (lv_at hl 0 rfl) ?_
  refine lv_aload hx hb dX13_failsOfRuns_69 (lv_at hl 2 rfl) ?_
  refine va_callFi (va_runF (As := []) (rest := [.int 0]) (hK.1 1 _ rfl).2 ⟨hx, hb, hml, hown, hts⟩ (c_Jx4a65c_size_8abf5 l dC dI g [(m6, .inl (g 0, 5, .inl fs)), (ra, .inl (g 0, 0, .inl fa)), ((u_16 0), .inr (1, [.int 0, .ref (g 10), .int 0])), (mo, .inr (15, [.int m0, .ref m1, .ref m2, .int m3, .ref m4, .ref m5, .ref m6, va_rf (m7), .ref m8, .int m9, .int m10, .int m11, .int m12, .int m13])), (rb, .inl (g 0, 0, .inl fb)), (q_1, .inl (g 0, 5, .inl (upd (upd (upd (upd (upd (fun _ => 0) (0 : Int32).toNatClampNeg 0) (1 : Int32).toNatClampNeg 1) (2 : Int32).toNatClampNeg 4) (3 : Int32).toNatClampNeg 0) (4 : Int32).toNatClampNeg 2))), ((u_17 0), .inr (1, [.int 0, .ref (g 10), .int 0]))] (u_16 0) 0 0 (some (g 10)) 2 rfl  H_18.size) (va_cwF 0 hts gX13_failsOfRuns_Jx4a65c_size_8abf5_f79Jx4a65c rfl rfl rfl (fw_1 hG) (by decide +kernel) ⟨Nat.le_of_ble_eq_true rfl, Nat.le_of_ble_eq_true rfl⟩) ⟨PG_blind, va_recv hK hP (ci := 1) (q0 := 2) rfl rfl, PG_call hK hG hS hP hD (A_all hD hA hS.1)⟩ rfl rfl hl.1 rfl (lv_room (Nat.le_of_ble_eq_true rfl)) dX13_failsOfRuns_71 ⟨Nat.le_of_ble_eq_true rfl, Nat.le_of_ble_eq_true rfl⟩) hS (fun q _ h => (A_all hD hA hS.1) q h) (A_all hD hA hS.1) (fun r_20 u_20 t_20 H_20 L_20 ht_20 hvm_20 hw_20 hB_20 hz_20 hk_20 hS => ?_)
  replace hB_20 := (show va_P (dC, dI) vwCl [(m6, .inl (g 0, 5, .inl fs)), (ra, .inl (g 0, 0, .inl fa)), ((u_16 0), .inr (1, [.int 0, .ref (g 10), .int 0])), (mo, .inr (15, [.int m0, .ref m1, .ref m2, .int m3, .ref m4, .ref m5, .ref m6, va_rf (m7), .ref m8, .int m9, .int m10, .int m11, .int m12, .int m13])), (rb, .inl (g 0, 0, .inl fb)), (q_1, .inl (g 0, 5, .inl (upd (upd (upd (upd (upd (fun _ => 0) (0 : Int32).toNatClampNeg 0) (1 : Int32).toNatClampNeg 1) (2 : Int32).toNatClampNeg 4) (3 : Int32).toNatClampNeg 0) (4 : Int32).toNatClampNeg 2))), ((u_17 0), .inr (1, [.int 0, .ref (g 10), .int 0]))] t_20.heap from hB_20)
  rw [ht_20] at hB_20
  have hP := hB_20
  obtain rfl : r_20 = 0 := hw_20
  refine lv_iconst (v := 1) hx hb dX13_failsOfRuns_76 (by decide) ?_
  refine lv_isub hx hb dX13_failsOfRuns_77 ?_
  refine lv_topi (fun x_21 ex_21 => ?_)
  obtain rfl : x_21 = (-1) := ex_21.trans (by decide)
  refine lv_icmp_ge (tgt := 119) hx hb dX13_failsOfRuns_78 (by decide) (fun c_22 => ?_) (fun c_22 => absurd (by decide) c_22)
  refine lv_aload_n hx hb dX13_failsOfRuns_119 rfl (lv_at hl 3 rfl) ?_
  refine lv_iconst (v := 1) hx hb dX13_failsOfRuns_120 (by decide) ?_
  refine lv_iconst (v := 2) hx hb dX13_failsOfRuns_121 (by decide) ?_
  refine va_iast hx hb hK hP hD hS 5 0 rfl rfl (by unfold vp_in; decide) dX13_failsOfRuns_122 (fun H_23 L_24 hP hD hS => ?_)
  have hP : va_P (dC, dI) vwCl [(m6, .inl (g 0, 5, .inl fs)), (ra, .inl (g 0, 0, .inl fa)), ((u_16 0), .inr (1, [.int 0, .ref (g 10), .int 0])), (mo, .inr (15, [.int m0, .ref m1, .ref m2, .int m3, .ref m4, .ref m5, .ref m6, va_rf (m7), .ref m8, .int m9, .int m10, .int m11, .int m12, .int m13])), (rb, .inl (g 0, 0, .inl fb)), (q_1, .inl (g 0, 5, .inl (upd (upd (upd (upd (upd (upd (fun _ => 0) (0 : Int32).toNatClampNeg 0) (1 : Int32).toNatClampNeg 1) (2 : Int32).toNatClampNeg 4) (3 : Int32).toNatClampNeg 0) (4 : Int32).toNatClampNeg 2) (1 : Int32).toNatClampNeg 2))), ((u_17 0), .inr (1, [.int 0, .ref (g 10), .int 0]))] H_23 := hP
  have hD : va_D A [(m6, .inl (g 0, 5, .inl fs)), (ra, .inl (g 0, 0, .inl fa)), ((u_16 0), .inr (1, [.int 0, .ref (g 10), .int 0])), (mo, .inr (15, [.int m0, .ref m1, .ref m2, .int m3, .ref m4, .ref m5, .ref m6, va_rf (m7), .ref m8, .int m9, .int m10, .int m11, .int m12, .int m13])), (rb, .inl (g 0, 0, .inl fb)), (q_1, .inl (g 0, 5, .inl (upd (upd (upd (upd (upd (upd (fun _ => 0) (0 : Int32).toNatClampNeg 0) (1 : Int32).toNatClampNeg 1) (2 : Int32).toNatClampNeg 4) (3 : Int32).toNatClampNeg 0) (4 : Int32).toNatClampNeg 2) (1 : Int32).toNatClampNeg 2))), ((u_17 0), .inr (1, [.int 0, .ref (g 10), .int 0]))] := hD
  refine lv_iload hx hb dX13_failsOfRuns_123 (lv_at hl 1 rfl) ?_
  refine lv_aload_n hx hb dX13_failsOfRuns_125 rfl (lv_at hl 4 rfl) ?_
  refine lv_aload_n hx hb dX13_failsOfRuns_126 rfl (lv_at hl 5 rfl) ?_
  refine lv_aload_n hx hb dX13_failsOfRuns_127 rfl (lv_at hl 3 rfl) ?_
  have hPc := hP.sub (ws' := [(mo, .inr (15, [.int m0, .ref m1, .ref m2, .int m3, .ref m4, .ref m5, .ref m6, va_rf (m7), .ref m8, .int m9, .int m10, .int m11, .int m12, .int m13])), (ra, .inl (g 0, 0, .inl fa)), (q_1, .inl (g 0, 5, .inl (upd (upd (upd (upd (upd (upd (fun _ => 0) (0 : Int32).toNatClampNeg 0) (1 : Int32).toNatClampNeg 1) (2 : Int32).toNatClampNeg 4) (3 : Int32).toNatClampNeg 0) (4 : Int32).toNatClampNeg 2) (1 : Int32).toNatClampNeg 2)))]) [3, 1, 5] rfl
  have hDc := hD.sub (ws' := [(mo, .inr (15, [.int m0, .ref m1, .ref m2, .int m3, .ref m4, .ref m5, .ref m6, va_rf (m7), .ref m8, .int m9, .int m10, .int m11, .int m12, .int m13])), (ra, .inl (g 0, 0, .inl fa)), (q_1, .inl (g 0, 5, .inl (upd (upd (upd (upd (upd (upd (fun _ => 0) (0 : Int32).toNatClampNeg 0) (1 : Int32).toNatClampNeg 1) (2 : Int32).toNatClampNeg 4) (3 : Int32).toNatClampNeg 0) (4 : Int32).toNatClampNeg 2) (1 : Int32).toNatClampNeg 2)))]) [3, 1, 5] (by decide) rfl
  have hFc := va_free (wc := [(mo, .inr (15, [.int m0, .ref m1, .ref m2, .int m3, .ref m4, .ref m5, .ref m6, va_rf (m7), .ref m8, .int m9, .int m10, .int m11, .int m12, .int m13])), (ra, .inl (g 0, 0, .inl fa)), (q_1, .inl (g 0, 5, .inl (upd (upd (upd (upd (upd (upd (fun _ => 0) (0 : Int32).toNatClampNeg 0) (1 : Int32).toNatClampNeg 1) (2 : Int32).toNatClampNeg 4) (3 : Int32).toNatClampNeg 0) (4 : Int32).toNatClampNeg 2) (1 : Int32).toNatClampNeg 2)))]) hD hS hA [3, 1, 5] rfl
  refine va_callq (va_runV (As := [.ref ra, .ref q_1]) (rest := [.int 0]) ⟨hx, hb, hml, hown, hts⟩ (c_X13_runsOf_2 l dC dI g mo ra q_1 fa (upd (upd (upd (upd (upd (upd (fun _ => 0) (0 : Int32).toNatClampNeg 0) (1 : Int32).toNatClampNeg 1) (2 : Int32).toNatClampNeg 4) (3 : Int32).toNatClampNeg 0) (4 : Int32).toNatClampNeg 2) (1 : Int32).toNatClampNeg 2) m0 m1 m2 m3 m4 m5 m6 m7 m8 m9 m10 m11 m12 m13 (by decide) (by decide) H_23.size) (cwV 2 hts gX13_failsOfRuns_X13_runsOf rfl rfl rfl (by decide +kernel) ⟨Nat.le_of_ble_eq_true rfl, Nat.le_of_ble_eq_true rfl⟩) ⟨PG_blind, va_recv hK hP (ci := 15) (q0 := 3) rfl rfl, PG_call hK hG hS hPc hDc hFc⟩ rfl rfl hl.1 rfl (lv_room (Nat.le_of_ble_eq_true rfl)) dX13_failsOfRuns_128 ⟨Nat.le_of_ble_eq_true rfl, Nat.le_of_ble_eq_true rfl⟩) hS (fun q _ h => hFc q h) hFc (fun r_25 u_25 t_25 H_25 L_25 ht_25 hvm_25 hw_25 hB_25 hz_25 hk_25 hS => ?_)
  obtain ⟨hP1, hD1⟩ := hB_25
  rw [ht_25] at hP1
  obtain ⟨hP, hD⟩ := va_join (wr := [(m6, .inl (g 0, 5, .inl fs)), ((u_16 0), .inr (1, [.int 0, .ref (g 10), .int 0])), (rb, .inl (g 0, 0, .inl fb)), ((u_17 0), .inr (1, [.int 0, .ref (g 10), .int 0]))]) (w1 := [(mo, .inr (15, [.int m0, .ref m1, .ref m2, .int m3, .ref m4, .ref m5, .ref m6, va_rf (m7), .ref m8, .int m9, .int m10, .int m11, .int m12, .int m13])), (ra, .inl (g 0, 0, .inl fa)), (q_1, .inl (g 0, 5, .inl (upd (upd (upd (upd (upd (upd (fun _ => 0) (0 : Int32).toNatClampNeg 0) (1 : Int32).toNatClampNeg 1) (2 : Int32).toNatClampNeg 4) (3 : Int32).toNatClampNeg 0) (4 : Int32).toNatClampNeg 2) (1 : Int32).toNatClampNeg 2))), ((u_25 0), .inr (1, [.int 0, .ref (g 10), .int 0]))]) hP hD [3, 1, 5] [0, 2, 4, 6] rfl rfl (by decide) (by decide) hk_25 hFc hP1 hD1
  have hP : va_P (dC, dI) vwCl [(m6, .inl (g 0, 5, .inl fs)), ((u_16 0), .inr (1, [.int 0, .ref (g 10), .int 0])), (rb, .inl (g 0, 0, .inl fb)), ((u_17 0), .inr (1, [.int 0, .ref (g 10), .int 0])), (mo, .inr (15, [.int m0, .ref m1, .ref m2, .int m3, .ref m4, .ref m5, .ref m6, va_rf (m7), .ref m8, .int m9, .int m10, .int m11, .int m12, .int m13])), (ra, .inl (g 0, 0, .inl fa)), (q_1, .inl (g 0, 5, .inl (upd (upd (upd (upd (upd (upd (fun _ => 0) (0 : Int32).toNatClampNeg 0) (1 : Int32).toNatClampNeg 1) (2 : Int32).toNatClampNeg 4) (3 : Int32).toNatClampNeg 0) (4 : Int32).toNatClampNeg 2) (1 : Int32).toNatClampNeg 2))), ((u_25 0), .inr (1, [.int 0, .ref (g 10), .int 0]))] H_25 := hP
  have hD : va_D A [(m6, .inl (g 0, 5, .inl fs)), ((u_16 0), .inr (1, [.int 0, .ref (g 10), .int 0])), (rb, .inl (g 0, 0, .inl fb)), ((u_17 0), .inr (1, [.int 0, .ref (g 10), .int 0])), (mo, .inr (15, [.int m0, .ref m1, .ref m2, .int m3, .ref m4, .ref m5, .ref m6, va_rf (m7), .ref m8, .int m9, .int m10, .int m11, .int m12, .int m13])), (ra, .inl (g 0, 0, .inl fa)), (q_1, .inl (g 0, 5, .inl (upd (upd (upd (upd (upd (upd (fun _ => 0) (0 : Int32).toNatClampNeg 0) (1 : Int32).toNatClampNeg 1) (2 : Int32).toNatClampNeg 4) (3 : Int32).toNatClampNeg 0) (4 : Int32).toNatClampNeg 2) (1 : Int32).toNatClampNeg 2))), ((u_25 0), .inr (1, [.int 0, .ref (g 10), .int 0]))] := hD
  refine W.widen (k := 10) (n := 32) (by omega) (by omega) ?_
  obtain rfl : r_25 = some (u_25 0) := hw_25
  refine W.eq (g2 := F0 m 131 ls [.ref (u_25 0), .int 0]) rfl ?_
  refine va_callFi (va_runF (As := []) (rest := [.int 0]) (hK.1 1 _ rfl).2 ⟨hx, hb, hml, hown, hts⟩ (c_Jx4a65c_size_8abf5 l dC dI g [(m6, .inl (g 0, 5, .inl fs)), ((u_16 0), .inr (1, [.int 0, .ref (g 10), .int 0])), (rb, .inl (g 0, 0, .inl fb)), ((u_17 0), .inr (1, [.int 0, .ref (g 10), .int 0])), (mo, .inr (15, [.int m0, .ref m1, .ref m2, .int m3, .ref m4, .ref m5, .ref m6, va_rf (m7), .ref m8, .int m9, .int m10, .int m11, .int m12, .int m13])), (ra, .inl (g 0, 0, .inl fa)), (q_1, .inl (g 0, 5, .inl (upd (upd (upd (upd (upd (upd (fun _ => 0) (0 : Int32).toNatClampNeg 0) (1 : Int32).toNatClampNeg 1) (2 : Int32).toNatClampNeg 4) (3 : Int32).toNatClampNeg 0) (4 : Int32).toNatClampNeg 2) (1 : Int32).toNatClampNeg 2))), ((u_25 0), .inr (1, [.int 0, .ref (g 10), .int 0]))] (u_25 0) 0 0 (some (g 10)) 7 rfl  H_25.size) (va_cwF 0 hts gX13_failsOfRuns_Jx4a65c_size_8abf5_f79Jx4a65c rfl rfl rfl (fw_1 hG) (by decide +kernel) ⟨Nat.le_of_ble_eq_true rfl, Nat.le_of_ble_eq_true rfl⟩) ⟨PG_blind, va_recv hK hP (ci := 1) (q0 := 7) rfl rfl, PG_call hK hG hS hP hD (A_all hD hA hS.1)⟩ rfl rfl hl.1 rfl (lv_room (Nat.le_of_ble_eq_true rfl)) dX13_failsOfRuns_131 ⟨Nat.le_of_ble_eq_true rfl, Nat.le_of_ble_eq_true rfl⟩) hS (fun q _ h => (A_all hD hA hS.1) q h) (A_all hD hA hS.1) (fun r_26 u_26 t_26 H_26 L_26 ht_26 hvm_26 hw_26 hB_26 hz_26 hk_26 hS => ?_)
  replace hB_26 := (show va_P (dC, dI) vwCl [(m6, .inl (g 0, 5, .inl fs)), ((u_16 0), .inr (1, [.int 0, .ref (g 10), .int 0])), (rb, .inl (g 0, 0, .inl fb)), ((u_17 0), .inr (1, [.int 0, .ref (g 10), .int 0])), (mo, .inr (15, [.int m0, .ref m1, .ref m2, .int m3, .ref m4, .ref m5, .ref m6, va_rf (m7), .ref m8, .int m9, .int m10, .int m11, .int m12, .int m13])), (ra, .inl (g 0, 0, .inl fa)), (q_1, .inl (g 0, 5, .inl (upd (upd (upd (upd (upd (upd (fun _ => 0) (0 : Int32).toNatClampNeg 0) (1 : Int32).toNatClampNeg 1) (2 : Int32).toNatClampNeg 4) (3 : Int32).toNatClampNeg 0) (4 : Int32).toNatClampNeg 2) (1 : Int32).toNatClampNeg 2))), ((u_25 0), .inr (1, [.int 0, .ref (g 10), .int 0]))] t_26.heap from hB_26)
  rw [ht_26] at hB_26
  have hP := hB_26
  obtain rfl : r_26 = 0 := hw_26
  refine lv_aload hx hb dX13_failsOfRuns_136 (lv_at hl 2 rfl) ?_
  refine va_callFi (va_runF (As := []) (rest := [.int 0, .int 0]) (hK.1 1 _ rfl).2 ⟨hx, hb, hml, hown, hts⟩ (c_Jx4a65c_size_8abf5 l dC dI g [(m6, .inl (g 0, 5, .inl fs)), ((u_16 0), .inr (1, [.int 0, .ref (g 10), .int 0])), (rb, .inl (g 0, 0, .inl fb)), ((u_17 0), .inr (1, [.int 0, .ref (g 10), .int 0])), (mo, .inr (15, [.int m0, .ref m1, .ref m2, .int m3, .ref m4, .ref m5, .ref m6, va_rf (m7), .ref m8, .int m9, .int m10, .int m11, .int m12, .int m13])), (ra, .inl (g 0, 0, .inl fa)), (q_1, .inl (g 0, 5, .inl (upd (upd (upd (upd (upd (upd (fun _ => 0) (0 : Int32).toNatClampNeg 0) (1 : Int32).toNatClampNeg 1) (2 : Int32).toNatClampNeg 4) (3 : Int32).toNatClampNeg 0) (4 : Int32).toNatClampNeg 2) (1 : Int32).toNatClampNeg 2))), ((u_25 0), .inr (1, [.int 0, .ref (g 10), .int 0]))] (u_16 0) 0 0 (some (g 10)) 1 rfl  H_26.size) (va_cwF 0 hts gX13_failsOfRuns_Jx4a65c_size_8abf5_f79Jx4a65c rfl rfl rfl (fw_1 hG) (by decide +kernel) ⟨Nat.le_of_ble_eq_true rfl, Nat.le_of_ble_eq_true rfl⟩) ⟨PG_blind, va_recv hK hP (ci := 1) (q0 := 1) rfl rfl, PG_call hK hG hS hP hD (A_all hD hA hS.1)⟩ rfl rfl hl.1 rfl (lv_room (Nat.le_of_ble_eq_true rfl)) dX13_failsOfRuns_138 ⟨Nat.le_of_ble_eq_true rfl, Nat.le_of_ble_eq_true rfl⟩) hS (fun q _ h => (A_all hD hA hS.1) q h) (A_all hD hA hS.1) (fun r_27 u_27 t_27 H_27 L_27 ht_27 hvm_27 hw_27 hB_27 hz_27 hk_27 hS => ?_)
  replace hB_27 := (show va_P (dC, dI) vwCl [(m6, .inl (g 0, 5, .inl fs)), ((u_16 0), .inr (1, [.int 0, .ref (g 10), .int 0])), (rb, .inl (g 0, 0, .inl fb)), ((u_17 0), .inr (1, [.int 0, .ref (g 10), .int 0])), (mo, .inr (15, [.int m0, .ref m1, .ref m2, .int m3, .ref m4, .ref m5, .ref m6, va_rf (m7), .ref m8, .int m9, .int m10, .int m11, .int m12, .int m13])), (ra, .inl (g 0, 0, .inl fa)), (q_1, .inl (g 0, 5, .inl (upd (upd (upd (upd (upd (upd (fun _ => 0) (0 : Int32).toNatClampNeg 0) (1 : Int32).toNatClampNeg 1) (2 : Int32).toNatClampNeg 4) (3 : Int32).toNatClampNeg 0) (4 : Int32).toNatClampNeg 2) (1 : Int32).toNatClampNeg 2))), ((u_25 0), .inr (1, [.int 0, .ref (g 10), .int 0]))] t_27.heap from hB_27)
  rw [ht_27] at hB_27
  have hP := hB_27
  obtain rfl : r_27 = 0 := hw_27
  refine lv_icmp_lt (tgt := 150) hx hb dX13_failsOfRuns_143 (by decide) (fun c_28 => absurd c_28 (by decide)) (fun c_28 => ?_)
  refine lv_iconst (v := 0) hx hb dX13_failsOfRuns_146 (by decide) ?_
  refine lv_goto (tgt := 151) hx hb dX13_failsOfRuns_147 (by decide) ?_
  refine lv_iadd hx hb dX13_failsOfRuns_151 ?_
  refine lv_topi (fun x_29 ex_29 => ?_)
  obtain rfl : x_29 = 0 := ex_29.trans (by decide)
  refine W.widen (k := 12) (n := 40) (by omega) (by omega) ?_
  have hP9 := hP.sub (ws' := [(mo, .inr (15, [.int m0, .ref m1, .ref m2, .int m3, .ref m4, .ref m5, .ref m6, va_rf (m7), .ref m8, .int m9, .int m10, .int m11, .int m12, .int m13])), (ra, .inl (g 0, 0, .inl fa)), (rb, .inl (g 0, 0, .inl fb)), (m6, .inl (g 0, 5, .inl fs))]) [4, 5, 2, 0] rfl
  have hD9 := hD.sub (ws' := [(mo, .inr (15, [.int m0, .ref m1, .ref m2, .int m3, .ref m4, .ref m5, .ref m6, va_rf (m7), .ref m8, .int m9, .int m10, .int m11, .int m12, .int m13])), (ra, .inl (g 0, 0, .inl fa)), (rb, .inl (g 0, 0, .inl fb)), (m6, .inl (g 0, 5, .inl fs))]) [4, 5, 2, 0] (by decide) rfl
  exact W.iret (v := 0) hx hb hr (fun t ht hW => ⟨⟨0, (fun j => ([] : List Nat).getD j 0), rfl, rfl, ⟨P_at ht hP9, hD9⟩⟩, hS.F ht⟩) hS.2.2 dX13_failsOfRuns_152
