theorem dX13_inserts_0 : decode cX13_inserts 0 = .ok (.iconst 1, 1) := by decide +kernel
theorem dX13_inserts_1 : decode cX13_inserts 1 = .ok (.istore_n 3, 1) := by decide +kernel
theorem dX13_inserts_2 : decode cX13_inserts 2 = .ok (.iload_n 3, 1) := by decide +kernel
theorem dX13_inserts_3 : decode cX13_inserts 3 = .ok (.aload_n 1, 1) := by decide +kernel
theorem dX13_inserts_4 : decode cX13_inserts 4 = .ok (.arraylength, 1) := by decide +kernel
theorem dX13_inserts_5 : decode cX13_inserts 5 = .ok (.if_icmp .ge 60, 3) := by decide +kernel
theorem dX13_inserts_65 : decode cX13_inserts 65 = .ok (.return_, 1) := by decide +kernel
theorem dX13_canCombine_0 : decode cX13_canCombine 0 = .ok (.aload_n 0, 1) := by decide +kernel
theorem dX13_canCombine_1 : decode cX13_canCombine 1 = .ok (.aload_n 1, 1) := by decide +kernel
theorem dX13_canCombine_2 : decode cX13_canCombine 2 = .ok (.iconst 0, 1) := by decide +kernel
set_option maxRecDepth 20000 in
theorem ggX13_canCombine_X13_isInOrder : GoodIn wsX13_canCombine wsX13_isInOrder := goodIn_r _ [5, 6, 7, 8, 4, 9, 10, 11, 12, 13, 14, 15, 16, 17, 18, 19, 20, 21, 22, 23, 24] (by decide +kernel) (by decide +kernel)
set_option maxRecDepth 20000 in
theorem gX13_canCombine_X13_isInOrder : GoodIn wsX13_canCombine (wsV RX13 71 RX13 yX13_isInOrder wsX13_isInOrder) := goodIn_app (goodIn_of _ (by decide +kernel)) ggX13_canCombine_X13_isInOrder
theorem dX13_canCombine_3 : decode cX13_canCombine 3 = .ok (.invokevirtual 71, 3) := by decide +kernel
theorem dX13_canCombine_6 : decode cX13_canCombine 6 = .ok (.ifCond .eq 30, 3) := by decide +kernel
theorem dX13_canCombine_9 : decode cX13_canCombine 9 = .ok (.aload_n 0, 1) := by decide +kernel
theorem dX13_canCombine_10 : decode cX13_canCombine 10 = .ok (.aload_n 2, 1) := by decide +kernel
theorem dX13_canCombine_11 : decode cX13_canCombine 11 = .ok (.iconst 0, 1) := by decide +kernel
theorem dX13_canCombine_12 : decode cX13_canCombine 12 = .ok (.invokevirtual 71, 3) := by decide +kernel
theorem dX13_canCombine_15 : decode cX13_canCombine 15 = .ok (.ifCond .eq 21, 3) := by decide +kernel
theorem dX13_canCombine_18 : decode cX13_canCombine 18 = .ok (.iload_n 3, 1) := by decide +kernel
theorem dX13_canCombine_19 : decode cX13_canCombine 19 = .ok (.ifCond .ne 13, 3) := by decide +kernel
theorem dX13_canCombine_32 : decode cX13_canCombine 32 = .ok (.iconst 1, 1) := by decide +kernel
theorem dX13_canCombine_33 : decode cX13_canCombine 33 = .ok (.goto 4, 3) := by decide +kernel
theorem dX13_canCombine_37 : decode cX13_canCombine 37 = .ok (.ireturn, 1) := by decide +kernel
theorem dX13_canCombine_22 : decode cX13_canCombine 22 = .ok (.aload_n 1, 1) := by decide +kernel
theorem dX13_canCombine_23 : decode cX13_canCombine 23 = .ok (.arraylength, 1) := by decide +kernel
theorem dX13_canCombine_24 : decode cX13_canCombine 24 = .ok (.aload_n 2, 1) := by decide +kernel
theorem dX13_canCombine_25 : decode cX13_canCombine 25 = .ok (.arraylength, 1) := by decide +kernel
theorem dX13_canCombine_26 : decode cX13_canCombine 26 = .ok (.iadd, 1) := by decide +kernel
theorem dX13_canCombine_27 : decode cX13_canCombine 27 = .ok (.bipush 100, 2) := by decide +kernel
theorem dX13_canCombine_29 : decode cX13_canCombine 29 = .ok (.if_icmp .gt 7, 3) := by decide +kernel
theorem dX13_together_0 : decode cX13_together 0 = .ok (.new 98, 3) := by decide +kernel
theorem dX13_together_3 : decode cX13_together 3 = .ok (.dup, 1) := by decide +kernel
set_option maxRecDepth 20000 in
theorem ggX13_together_Jx4a65c_init_da8c8 : GoodIn wsX13_together wsJx4a65c_init_da8c8 := goodIn_r _ [7, 8, 9, 10, 11, 12, 13, 14, 15, 16, 17, 18, 19, 20, 21, 134, 135, 136] (by decide +kernel) (by decide +kernel)
set_option maxRecDepth 20000 in
theorem gX13_together_Jx4a65c_init_da8c8 : GoodIn wsX13_together (wsJx4a65c_init_da8c8) := ggX13_together_Jx4a65c_init_da8c8
theorem dX13_together_4 : decode cX13_together 4 = .ok (.invokespecial 100, 3) := by decide +kernel
theorem dX13_together_7 : decode cX13_together 7 = .ok (.astore 4, 2) := by decide +kernel
theorem dX13_together_9 : decode cX13_together 9 = .ok (.iconst 0, 1) := by decide +kernel
theorem dX13_together_10 : decode cX13_together 10 = .ok (.istore 5, 2) := by decide +kernel
theorem dX13_together_12 : decode cX13_together 12 = .ok (.iload 5, 2) := by decide +kernel
theorem dX13_together_14 : decode cX13_together 14 = .ok (.aload_n 1, 1) := by decide +kernel
theorem dX13_together_15 : decode cX13_together 15 = .ok (.arraylength, 1) := by decide +kernel
theorem dX13_together_16 : decode cX13_together 16 = .ok (.if_icmp .ge 56, 3) := by decide +kernel
theorem dX13_together_72 : decode cX13_together 72 = .ok (.iconst 0, 1) := by decide +kernel
theorem dX13_together_73 : decode cX13_together 73 = .ok (.istore 5, 2) := by decide +kernel
theorem dX13_together_75 : decode cX13_together 75 = .ok (.iload 5, 2) := by decide +kernel
theorem dX13_together_77 : decode cX13_together 77 = .ok (.aload_n 2, 1) := by decide +kernel
theorem dX13_together_78 : decode cX13_together 78 = .ok (.arraylength, 1) := by decide +kernel
theorem dX13_together_79 : decode cX13_together 79 = .ok (.if_icmp .ge 29, 3) := by decide +kernel
theorem dX13_together_108 : decode cX13_together 108 = .ok (.aload 4, 2) := by decide +kernel
set_option maxRecDepth 20000 in
theorem ggX13_together_X13_rowOf : GoodIn wsX13_together wsX13_rowOf := goodIn_r _ [99, 100, 101, 102, 103, 104, 3, 105, 50, 106, 107, 108, 109, 110, 111, 112, 113, 114, 115, 116, 117, 118, 119, 120, 121, 9, 122, 123, 124, 29, 125, 38, 134, 135, 136, 151] (by decide +kernel) (by decide +kernel)
set_option maxRecDepth 20000 in
theorem gX13_together_X13_rowOf : GoodIn wsX13_together (va_wsS RX13 134 yX13_rowOf wsX13_rowOf) := goodIn_app (goodIn_of _ (by decide +kernel)) ggX13_together_X13_rowOf
theorem dX13_together_110 : decode cX13_together 110 = .ok (.invokestatic 134, 3) := by decide +kernel
theorem dX13_together_113 : decode cX13_together 113 = .ok (.astore 5, 2) := by decide +kernel
theorem dX13_together_115 : decode cX13_together 115 = .ok (.aload_n 0, 1) := by decide +kernel
theorem dX13_together_116 : decode cX13_together 116 = .ok (.aload 5, 2) := by decide +kernel
theorem dX13_together_118 : decode cX13_together 118 = .ok (.iconst 0, 1) := by decide +kernel
set_option maxRecDepth 20000 in
theorem ggX13_together_X13_inserts : GoodIn wsX13_together wsX13_inserts := goodIn_r _ [129, 130, 131, 132, 25, 133, 4, 137, 138, 139, 140, 141, 142, 143, 144, 145, 146, 147, 148, 149, 150] (by decide +kernel) (by decide +kernel)
set_option maxRecDepth 20000 in
theorem gX13_together_X13_inserts : GoodIn wsX13_together (wsV RX13 105 RX13 yX13_inserts wsX13_inserts) := goodIn_app (goodIn_of _ (by decide +kernel)) ggX13_together_X13_inserts
theorem dX13_together_119 : decode cX13_together 119 = .ok (.invokevirtual 105, 3) := by decide +kernel
theorem dX13_together_122 : decode cX13_together 122 = .ok (.aload 5, 2) := by decide +kernel
theorem dX13_together_124 : decode cX13_together 124 = .ok (.areturn, 1) := by decide +kernel
theorem dX13_combine_0 : decode cX13_combine 0 = .ok (.iload_n 1, 1) := by decide +kernel
set_option maxRecDepth 20000 in
theorem ggX13_combine_X13_isTape : GoodIn wsX13_combine wsX13_isTape := goodIn_r _ [5, 6, 7, 4, 8] (by decide +kernel) (by decide +kernel)
set_option maxRecDepth 20000 in
theorem gX13_combine_X13_isTape : GoodIn wsX13_combine (va_wsS RX13 44 yX13_isTape wsX13_isTape) := goodIn_app (goodIn_of _ (by decide +kernel)) ggX13_combine_X13_isTape
theorem dX13_combine_1 : decode cX13_combine 1 = .ok (.invokestatic 44, 3) := by decide +kernel
theorem dX13_combine_4 : decode cX13_combine 4 = .ok (.ifCond .eq 21, 3) := by decide +kernel
theorem dX13_combine_25 : decode cX13_combine 25 = .ok (.iconst 0, 1) := by decide +kernel
theorem dX13_combine_26 : decode cX13_combine 26 = .ok (.istore 5, 2) := by decide +kernel
theorem dX13_combine_28 : decode cX13_combine 28 = .ok (.aload_n 0, 1) := by decide +kernel
theorem dX13_combine_29 : decode cX13_combine 29 = .ok (.iload 5, 2) := by decide +kernel
theorem dX13_combine_31 : decode cX13_combine 31 = .ok (.iload 4, 2) := by decide +kernel
theorem dX13_combine_33 : decode cX13_combine 33 = .ok (.iconst 0, 1) := by decide +kernel
theorem dX13_combine_34 : decode cX13_combine 34 = .ok (.iconst 2, 1) := by decide +kernel
set_option maxRecDepth 20000 in
theorem ggX13_combine_X13_in : GoodIn wsX13_combine wsX13_in := goodIn_r _ [8] (by decide +kernel) (by decide +kernel)
set_option maxRecDepth 20000 in
theorem gX13_combine_X13_in : GoodIn wsX13_combine (va_wsS RX13 7 yX13_in wsX13_in) := goodIn_app (goodIn_of _ (by decide +kernel)) ggX13_combine_X13_in
theorem dX13_combine_35 : decode cX13_combine 35 = .ok (.invokestatic 7, 3) := by decide +kernel
theorem dX13_combine_38 : decode cX13_combine 38 = .ok (.iload 5, 2) := by decide +kernel
theorem dX13_combine_40 : decode cX13_combine 40 = .ok (.ifCond .eq 28, 3) := by decide +kernel
theorem dX13_combine_68 : decode cX13_combine 68 = .ok (.iconst 0, 1) := by decide +kernel
set_option maxRecDepth 20000 in
theorem ggX13_combine_X13_passes : GoodIn wsX13_combine wsX13_passes := goodIn_r _ [25, 26, 158, 159, 160, 161, 162, 163, 164, 165, 166, 167, 168, 169, 170, 171] (by decide +kernel) (by decide +kernel)
set_option maxRecDepth 20000 in
theorem gX13_combine_X13_passes : GoodIn wsX13_combine (wsV RX13 55 RX13 yX13_passes wsX13_passes) := goodIn_app (goodIn_of _ (by decide +kernel)) ggX13_combine_X13_passes
theorem dX13_combine_69 : decode cX13_combine 69 = .ok (.invokevirtual 55, 3) := by decide +kernel
theorem dX13_combine_72 : decode cX13_combine 72 = .ok (.ifCond .ne 5, 3) := by decide +kernel
theorem dX13_combine_75 : decode cX13_combine 75 = .ok (.iconst 0, 1) := by decide +kernel
theorem dX13_combine_76 : decode cX13_combine 76 = .ok (.ireturn, 1) := by decide +kernel
theorem dX13_combine_7 : decode cX13_combine 7 = .ok (.iload_n 2, 1) := by decide +kernel
theorem dX13_combine_8 : decode cX13_combine 8 = .ok (.invokestatic 44, 3) := by decide +kernel
theorem dX13_combine_11 : decode cX13_combine 11 = .ok (.ifCond .eq 14, 3) := by decide +kernel
theorem dX13_combine_14 : decode cX13_combine 14 = .ok (.iload_n 3, 1) := by decide +kernel
theorem dX13_combine_15 : decode cX13_combine 15 = .ok (.invokestatic 44, 3) := by decide +kernel
theorem dX13_combine_18 : decode cX13_combine 18 = .ok (.ifCond .eq 7, 3) := by decide +kernel
theorem dX13_combine_21 : decode cX13_combine 21 = .ok (.iconst 1, 1) := by decide +kernel
theorem dX13_combine_22 : decode cX13_combine 22 = .ok (.goto 4, 3) := by decide +kernel
theorem dX13_combine_43 : decode cX13_combine 43 = .ok (.aload_n 0, 1) := by decide +kernel
theorem dX13_combine_44 : decode cX13_combine 44 = .ok (.aload_n 0, 1) := by decide +kernel
theorem dX13_combine_45 : decode cX13_combine 45 = .ok (.getfield 29, 3) := by decide +kernel
theorem dX13_combine_48 : decode cX13_combine 48 = .ok (.iload_n 1, 1) := by decide +kernel
theorem dX13_combine_49 : decode cX13_combine 49 = .ok (.aaload, 1) := by decide +kernel
theorem dX13_combine_50 : decode cX13_combine 50 = .ok (.aload_n 0, 1) := by decide +kernel
theorem dX13_combine_51 : decode cX13_combine 51 = .ok (.getfield 29, 3) := by decide +kernel
theorem dX13_combine_54 : decode cX13_combine 54 = .ok (.iload_n 2, 1) := by decide +kernel
theorem dX13_combine_55 : decode cX13_combine 55 = .ok (.aaload, 1) := by decide +kernel
theorem dX13_combine_56 : decode cX13_combine 56 = .ok (.iload 4, 2) := by decide +kernel
set_option maxRecDepth 20000 in
theorem ggX13_combine_X13_canCombine : GoodIn wsX13_combine wsX13_canCombine := goodIn_r _ [12, 13, 14, 15, 4, 16, 17, 18, 19, 20, 21, 158, 159, 160, 161, 162, 163, 164, 165, 166, 167, 168, 169, 170, 171] (by decide +kernel) (by decide +kernel)
set_option maxRecDepth 20000 in
theorem gX13_combine_X13_canCombine : GoodIn wsX13_combine (wsV RX13 201 RX13 yX13_canCombine wsX13_canCombine) := goodIn_app (goodIn_of _ (by decide +kernel)) ggX13_combine_X13_canCombine
theorem dX13_combine_58 : decode cX13_combine 58 = .ok (.invokevirtual 201, 3) := by decide +kernel
theorem dX13_combine_61 : decode cX13_combine 61 = .ok (.ifCond .eq 7, 3) := by decide +kernel
theorem dX13_combine_64 : decode cX13_combine 64 = .ok (.iconst 1, 1) := by decide +kernel
theorem dX13_combine_65 : decode cX13_combine 65 = .ok (.goto 4, 3) := by decide +kernel
theorem dX13_combine_77 : decode cX13_combine 77 = .ok (.aload_n 0, 1) := by decide +kernel
theorem dX13_combine_78 : decode cX13_combine 78 = .ok (.getfield 29, 3) := by decide +kernel
theorem dX13_combine_81 : decode cX13_combine 81 = .ok (.iload_n 3, 1) := by decide +kernel
theorem dX13_combine_82 : decode cX13_combine 82 = .ok (.aload_n 0, 1) := by decide +kernel
theorem dX13_combine_83 : decode cX13_combine 83 = .ok (.aload_n 0, 1) := by decide +kernel
theorem dX13_combine_84 : decode cX13_combine 84 = .ok (.getfield 29, 3) := by decide +kernel
theorem dX13_combine_87 : decode cX13_combine 87 = .ok (.iload_n 1, 1) := by decide +kernel
theorem dX13_combine_88 : decode cX13_combine 88 = .ok (.aaload, 1) := by decide +kernel
theorem dX13_combine_89 : decode cX13_combine 89 = .ok (.aload_n 0, 1) := by decide +kernel
theorem dX13_combine_90 : decode cX13_combine 90 = .ok (.getfield 29, 3) := by decide +kernel
theorem dX13_combine_93 : decode cX13_combine 93 = .ok (.iload_n 2, 1) := by decide +kernel
theorem dX13_combine_94 : decode cX13_combine 94 = .ok (.aaload, 1) := by decide +kernel
theorem dX13_combine_95 : decode cX13_combine 95 = .ok (.iload 4, 2) := by decide +kernel
set_option maxRecDepth 20000 in
theorem ggX13_combine_X13_together : GoodIn wsX13_combine wsX13_together := goodIn_r _ [30, 31, 32, 33, 21, 34, 35, 36, 37, 38, 39, 40, 41, 42, 43, 44, 45, 46, 47, 48, 49, 50, 51, 52, 53, 4, 54, 55, 56, 57, 58, 59, 60, 61, 62, 63, 64, 65, 66, 67, 68, 69, 70, 71, 72, 73, 74, 75, 76, 77, 78, 79, 80, 81, 82, 83, 84, 85, 86, 87, 88, 89, 90, 91, 92, 93, 94, 95, 96, 97, 98, 99, 100, 101, 102, 103, 104, 105, 106, 107, 108, 109, 110, 111, 112, 113, 114, 115, 116, 117, 118, 119, 120, 121, 122, 123, 124, 125, 126, 127, 128, 129, 130, 131, 132, 133, 134, 135, 136, 137, 138, 139, 140, 141, 142, 143, 144, 145, 146, 147, 148, 149, 150, 151, 152, 153, 154, 155, 156, 157, 17, 18, 19, 20, 172, 173, 174, 158, 159, 160, 161, 162, 163, 164, 165, 166, 167, 168, 169, 170, 171, 175] (by decide +kernel) (by decide +kernel)
set_option maxRecDepth 20000 in
theorem gX13_combine_X13_together : GoodIn wsX13_combine (wsV RX13 205 RX13 yX13_together wsX13_together) := goodIn_app (goodIn_of _ (by decide +kernel)) ggX13_combine_X13_together
theorem dX13_combine_97 : decode cX13_combine 97 = .ok (.invokevirtual 205, 3) := by decide +kernel
theorem dX13_combine_100 : decode cX13_combine 100 = .ok (.aastore, 1) := by decide +kernel
theorem dX13_combine_101 : decode cX13_combine 101 = .ok (.aload_n 0, 1) := by decide +kernel
theorem dX13_combine_102 : decode cX13_combine 102 = .ok (.getfield 29, 3) := by decide +kernel
theorem dX13_combine_105 : decode cX13_combine 105 = .ok (.iload_n 3, 1) := by decide +kernel
theorem dX13_combine_106 : decode cX13_combine 106 = .ok (.aaload, 1) := by decide +kernel
theorem dX13_combine_107 : decode cX13_combine 107 = .ok (.arraylength, 1) := by decide +kernel
theorem dX13_combine_108 : decode cX13_combine 108 = .ok (.ireturn, 1) := by decide +kernel
set_option maxHeartbeats 4000000 in
set_option maxRecDepth 100000 in
theorem c_X13_inserts (l : Launch) (dC : Nat → ClassId) (dI : Nat → Nat → Nat) (g : Nat → ClassId) (Wd : va_W) (o : Nat) (rw_ : Nat) (od : Int32) (fr : Nat → Int32) (k0 : Nat) (w0 : Wd[k0]? = some (rw_, .inl (g 0, 0, .inl fr))) (sz : Nat) : Met l yX13_inserts wsX13_inserts ({ frames := 0, cells := 0, slots := 0, locals := 0 }) (va_Pc [.ref o, .ref rw_, .int od] (PG (dC, dI) g Wd sz)) (va_Qv (fun (_ : Unit) => True) (fun (_ : Unit) t => va_P (dC, dI) vwCl Wd t.heap) (va_A Wd sz)) 0 0 (va_A Wd sz) := by
  refine Met.ofW (cc := cX13_inserts) (maxL := 6) (ret := none) (by decide) rfl ?_
  intro p e s m args below meth c s₁ B hml hv
  obtain ⟨rfl, hsz, hP, hK, hD0, hG⟩ := hv
  have hx := B.exec
  have hb := B.bytes
  have hr := B.returns
  have hts := atoms_spec (ws := wsX13_inserts) B.pre
  have hown : s.vm.findClass RX13 = some m.cls := findClass_of_methodNamed B.named
  have hlocks := B.notSynchronized
  subst hsz
  have hD := hD0.self (sz := s.heap.size)
  generalize hAe : va_A Wd s.heap.size = A at hD hG ⊢
  have hA : ∀ q : Nat, s.heap.size ≤ q → A q := fun q h => by rw [← hAe]; exact Or.inr h
  have hS : va_S A s.heap s.heap [] := va_S.rf
  have hl := lv_entry ([.ref o, .ref rw_, .int od]) (n := 6) (Nat.le_of_ble_eq_true rfl)
  rw [lg_entry_eq]
  generalize (lg_sl ([.ref o, .ref rw_, .int od]) ++ List.replicate (6 - (lg_sl ([.ref o, .ref rw_, .int od])).length) Slot.unset).toArray = ls at hl ⊢
  have hl : lv_has ls 6 [(0, .ref o), (1, .ref rw_), (2, .int od)] := hl
  refine lv_iconst (v := 1) hx hb dX13_inserts_0 (by decide) ?_
  refine lv_istore_n (lv' := [(3, .int 1), (0, .ref o), (1, .ref rw_), (2, .int od)]) hx hb dX13_inserts_1 rfl hl (by decide) rfl (fun ls hl => ?_)
  refine lv_iload_n hx hb dX13_inserts_2 rfl (lv_at hl 0 rfl) ?_
  refine lv_aload_n hx hb dX13_inserts_3 rfl (lv_at hl 2 rfl) ?_
  refine va_alen hx hb hK hP k0 0 w0 rfl (v := 0) rfl dX13_inserts_4 ?_
  refine lv_icmp_ge (tgt := 65) hx hb dX13_inserts_5 (by decide) (fun c_1 => ?_) (fun c_1 => absurd (by decide) c_1)
  exact W.vret hx hb hr (fun t ht hW => ⟨⟨(), rfl, trivial, P_at ht hP⟩, hS.F ht⟩) hS.2.2 dX13_inserts_65
set_option maxHeartbeats 4000000 in
set_option maxRecDepth 100000 in
theorem c_X13_canCombine (l : Launch) (dC : Nat → ClassId) (dI : Nat → Nat → Nat) (g : Nat → ClassId) (Wd : va_W) (mo : Nat) (ra : Nat) (rb : Nat) (hw : Int32) (fa : Nat → Int32) (fb : Nat → Int32) (m0 : Int32) (m1 : Nat) (m2 : Nat) (m3 : Int32) (m4 : Nat) (m5 : Nat) (m6 : Nat) (m7 : Option Nat) (m8 : Nat) (m9 : Int32) (m10 : Int32) (m11 : Int32) (m12 : Int32) (m13 : Int32) (k0 : Nat) (w0 : Wd[k0]? = some (mo, .inr (15, [.int m0, .ref m1, .ref m2, .int m3, .ref m4, .ref m5, .ref m6, va_rf (m7), .ref m8, .int m9, .int m10, .int m11, .int m12, .int m13]))) (k1 : Nat) (w1 : Wd[k1]? = some (ra, .inl (g 0, 0, .inl fa))) (k2 : Nat) (w2 : Wd[k2]? = some (rb, .inl (g 0, 0, .inl fb))) (sz : Nat) : Met l yX13_canCombine wsX13_canCombine ({ frames := 1, cells := 0, slots := 0, locals := 23 }) (va_Pc [.ref mo, .ref ra, .ref rb, .int hw] (PG (dC, dI) g Wd sz)) (va_Qi (fun (r : Int32) (_ : Unit) => r = 1) (fun (_ : Unit) t => va_P (dC, dI) vwCl Wd t.heap) (va_A Wd sz)) 0 0 (va_A Wd sz) := by
  refine Met.ofW (cc := cX13_canCombine) (maxL := 4) (ret := (some .boolean)) (by decide) rfl ?_
  intro p e s m args below meth c s₁ B hml hv
  obtain ⟨rfl, hsz, hP, hK, hD0, hG⟩ := hv
  have hx := B.exec
  have hb := B.bytes
  have hr := B.returns
  have hts := atoms_spec (ws := wsX13_canCombine) B.pre
  have hown : s.vm.findClass RX13 = some m.cls := findClass_of_methodNamed B.named
  have hlocks := B.notSynchronized
  subst hsz
  have hD := hD0.self (sz := s.heap.size)
  generalize hAe : va_A Wd s.heap.size = A at hD hG ⊢
  have hA : ∀ q : Nat, s.heap.size ≤ q → A q := fun q h => by rw [← hAe]; exact Or.inr h
  have hS : va_S A s.heap s.heap [] := va_S.rf
  have hl := lv_entry ([.ref mo, .ref ra, .ref rb, .int hw]) (n := 4) (Nat.le_of_ble_eq_true rfl)
  rw [lg_entry_eq]
  generalize (lg_sl ([.ref mo, .ref ra, .ref rb, .int hw]) ++ List.replicate (4 - (lg_sl ([.ref mo, .ref ra, .ref rb, .int hw])).length) Slot.unset).toArray = ls at hl ⊢
  have hl : lv_has ls 4 [(0, .ref mo), (1, .ref ra), (2, .ref rb), (3, .int hw)] := hl
  refine lv_aload_n hx hb dX13_canCombine_0 rfl (lv_at hl 0 rfl) ?_
  refine lv_aload_n hx hb dX13_canCombine_1 rfl (lv_at hl 1 rfl) ?_
  refine lv_iconst (v := 0) hx hb dX13_canCombine_2 (by decide) ?_
  refine va_calli (va_runV (As := [.ref ra, .int 0]) (rest := []) ⟨hx, hb, hml, hown, hts⟩ (c_X13_isInOrder l dC dI g Wd mo ra 0 fa k1 w1  s.heap.size) (cwV 2 hts gX13_canCombine_X13_isInOrder rfl rfl rfl (by decide +kernel) ⟨Nat.le_of_ble_eq_true rfl, Nat.le_of_ble_eq_true rfl⟩) ⟨PG_blind, va_recv hK hP (ci := 15) (q0 := k0) rfl w0, PG_call hK hG hS hP hD (A_all hD hA hS.1)⟩ rfl rfl hl.1 rfl (lv_room (Nat.le_of_ble_eq_true rfl)) dX13_canCombine_3 ⟨Nat.le_of_ble_eq_true rfl, Nat.le_of_ble_eq_true rfl⟩) hS (fun q _ h => (A_all hD hA hS.1) q h) (A_all hD hA hS.1) (fun r_1 u_1 t_1 H_1 L_1 ht_1 hvm_1 hw_1 hB_1 hz_1 hk_1 hS => ?_)
  replace hB_1 := (show va_P (dC, dI) vwCl Wd t_1.heap from hB_1)
  rw [ht_1] at hB_1
  have hP := hB_1
  obtain rfl : r_1 = 1 := hw_1
  refine lv_if_eq (tgt := 36) hx hb dX13_canCombine_6 (by decide) (fun c_2 => absurd c_2 (by decide)) (fun c_2 => ?_)
  refine lv_aload_n hx hb dX13_canCombine_9 rfl (lv_at hl 0 rfl) ?_
  refine lv_aload_n hx hb dX13_canCombine_10 rfl (lv_at hl 2 rfl) ?_
  refine lv_iconst (v := 0) hx hb dX13_canCombine_11 (by decide) ?_
  refine va_calli (va_runV (As := [.ref rb, .int 0]) (rest := []) ⟨hx, hb, hml, hown, hts⟩ (c_X13_isInOrder l dC dI g Wd mo rb 0 fb k2 w2  H_1.size) (cwV 2 hts gX13_canCombine_X13_isInOrder rfl rfl rfl (by decide +kernel) ⟨Nat.le_of_ble_eq_true rfl, Nat.le_of_ble_eq_true rfl⟩) ⟨PG_blind, va_recv hK hP (ci := 15) (q0 := k0) rfl w0, PG_call hK hG hS hP hD (A_all hD hA hS.1)⟩ rfl rfl hl.1 rfl (lv_room (Nat.le_of_ble_eq_true rfl)) dX13_canCombine_12 ⟨Nat.le_of_ble_eq_true rfl, Nat.le_of_ble_eq_true rfl⟩) hS (fun q _ h => (A_all hD hA hS.1) q h) (A_all hD hA hS.1) (fun r_3 u_3 t_3 H_3 L_3 ht_3 hvm_3 hw_3 hB_3 hz_3 hk_3 hS => ?_)
  replace hB_3 := (show va_P (dC, dI) vwCl Wd t_3.heap from hB_3)
  rw [ht_3] at hB_3
  have hP := hB_3
  obtain rfl : r_3 = 1 := hw_3
  refine lv_if_eq (tgt := 36) hx hb dX13_canCombine_15 (by decide) (fun c_4 => absurd c_4 (by decide)) (fun c_4 => ?_)
  refine lv_iload_n hx hb dX13_canCombine_18 rfl (lv_at hl 3 rfl) ?_
  refine lv_if_ne (tgt := 32) hx hb dX13_canCombine_19 (by decide) (fun c_5 => ?_) (fun c_5 => ?_)
  · refine lv_iconst (v := 1) hx hb dX13_canCombine_32 (by decide) ?_
    refine lv_goto (tgt := 37) hx hb dX13_canCombine_33 (by decide) ?_
    exact W.zret (v := 1) hx hb hr rfl (fun t ht hW => ⟨⟨1, (), rfl, rfl, P_at ht hP⟩, hS.F ht⟩) hS.2.2 dX13_canCombine_37
  · refine lv_aload_n hx hb dX13_canCombine_22 rfl (lv_at hl 1 rfl) ?_
    refine va_alen hx hb hK hP k1 0 w1 rfl (v := 0) rfl dX13_canCombine_23 ?_
    refine lv_aload_n hx hb dX13_canCombine_24 rfl (lv_at hl 2 rfl) ?_
    refine va_alen hx hb hK hP k2 0 w2 rfl (v := 0) rfl dX13_canCombine_25 ?_
    refine lv_iadd hx hb dX13_canCombine_26 ?_
    refine lv_topi (fun x_6 ex_6 => ?_)
    obtain rfl : x_6 = 0 := ex_6.trans (by decide)
    refine lv_bipush (v := 100) hx hb dX13_canCombine_27 (by decide) ?_
    refine lv_icmp_gt (tgt := 36) hx hb dX13_canCombine_29 (by decide) (fun c_7 => absurd c_7 (by decide)) (fun c_7 => ?_)
    refine lv_iconst (v := 1) hx hb dX13_canCombine_32 (by decide) ?_
    refine lv_goto (tgt := 37) hx hb dX13_canCombine_33 (by decide) ?_
    exact W.zret (v := 1) hx hb hr rfl (fun t ht hW => ⟨⟨1, (), rfl, rfl, P_at ht hP⟩, hS.F ht⟩) hS.2.2 dX13_canCombine_37
set_option maxHeartbeats 4000000 in
set_option maxRecDepth 100000 in
theorem c_X13_together (l : Launch) (dC : Nat → ClassId) (dI : Nat → Nat → Nat) (g : Nat → ClassId) (mo : Nat) (ra : Nat) (rb : Nat) (hw : Int32) (fa : Nat → Int32) (fb : Nat → Int32) (m0 : Int32) (m1 : Nat) (m2 : Nat) (m3 : Int32) (m4 : Nat) (m5 : Nat) (m6 : Nat) (m7 : Option Nat) (m8 : Nat) (m9 : Int32) (m10 : Int32) (m11 : Int32) (m12 : Int32) (m13 : Int32) (sz : Nat) : Met l yX13_together wsX13_together ({ frames := 4, cells := 2, slots := 3, locals := 72 }) (va_Pc [.ref mo, .ref ra, .ref rb, .int hw] (PG (dC, dI) g [(mo, .inr (15, [.int m0, .ref m1, .ref m2, .int m3, .ref m4, .ref m5, .ref m6, va_rf (m7), .ref m8, .int m9, .int m10, .int m11, .int m12, .int m13])), (ra, .inl (g 0, 0, .inl fa)), (rb, .inl (g 0, 0, .inl fb))] sz)) (va_Qq (fun (r : Option Nat) (u : Nat → Nat) => r = some (u 0)) (fun (u : Nat → Nat) t9 => va_P (dC, dI) vwCl [(mo, .inr (15, [.int m0, .ref m1, .ref m2, .int m3, .ref m4, .ref m5, .ref m6, va_rf (m7), .ref m8, .int m9, .int m10, .int m11, .int m12, .int m13])), (ra, .inl (g 0, 0, .inl fa)), (rb, .inl (g 0, 0, .inl fb)), ((u 0), .inl (g 0, 0, .inl (fun _ => 0)))] t9.heap ∧ va_D (va_A [(mo, .inr (15, [.int m0, .ref m1, .ref m2, .int m3, .ref m4, .ref m5, .ref m6, va_rf (m7), .ref m8, .int m9, .int m10, .int m11, .int m12, .int m13])), (ra, .inl (g 0, 0, .inl fa)), (rb, .inl (g 0, 0, .inl fb))] sz) [(mo, .inr (15, [.int m0, .ref m1, .ref m2, .int m3, .ref m4, .ref m5, .ref m6, va_rf (m7), .ref m8, .int m9, .int m10, .int m11, .int m12, .int m13])), (ra, .inl (g 0, 0, .inl fa)), (rb, .inl (g 0, 0, .inl fb)), ((u 0), .inl (g 0, 0, .inl (fun _ => 0)))]) (va_A [(mo, .inr (15, [.int m0, .ref m1, .ref m2, .int m3, .ref m4, .ref m5, .ref m6, va_rf (m7), .ref m8, .int m9, .int m10, .int m11, .int m12, .int m13])), (ra, .inl (g 0, 0, .inl fa)), (rb, .inl (g 0, 0, .inl fb))] sz)) 2 3 (va_A [(mo, .inr (15, [.int m0, .ref m1, .ref m2, .int m3, .ref m4, .ref m5, .ref m6, va_rf (m7), .ref m8, .int m9, .int m10, .int m11, .int m12, .int m13])), (ra, .inl (g 0, 0, .inl fa)), (rb, .inl (g 0, 0, .inl fb))] sz) := by
  refine Met.ofW (cc := cX13_together) (maxL := 7) (ret := (some (.array .int))) (by decide) rfl ?_
  intro p e s m args below meth c s₁ B hml hv
  obtain ⟨rfl, hsz, hP, hK, hD0, hG⟩ := hv
  have hx := B.exec
  have hb := B.bytes
  have hr := B.returns
  have hts := atoms_spec (ws := wsX13_together) B.pre
  have hown : s.vm.findClass RX13 = some m.cls := findClass_of_methodNamed B.named
  have hlocks := B.notSynchronized
  subst hsz
  have hD := hD0.self (sz := s.heap.size)
  generalize hAe : va_A [(mo, .inr (15, [.int m0, .ref m1, .ref m2, .int m3, .ref m4, .ref m5, .ref m6, va_rf (m7), .ref m8, .int m9, .int m10, .int m11, .int m12, .int m13])), (ra, .inl (g 0, 0, .inl fa)), (rb, .inl (g 0, 0, .inl fb))] s.heap.size = A at hD hG ⊢
  have hA : ∀ q : Nat, s.heap.size ≤ q → A q := fun q h => by rw [← hAe]; exact Or.inr h
  have hS : va_S A s.heap s.heap [] := va_S.rf
  have hl := lv_entry ([.ref mo, .ref ra, .ref rb, .int hw]) (n := 7) (Nat.le_of_ble_eq_true rfl)
  rw [lg_entry_eq]
  generalize (lg_sl ([.ref mo, .ref ra, .ref rb, .int hw]) ++ List.replicate (7 - (lg_sl ([.ref mo, .ref ra, .ref rb, .int hw])).length) Slot.unset).toArray = ls at hl ⊢
  have hl : lv_has ls 7 [(0, .ref mo), (1, .ref ra), (2, .ref rb), (3, .int hw)] := hl
  have hcl98 := hts (Cond.classLink RX13 98 RJx4a65c) (by decide +kernel)
  have hinJx4a65c := hts (Cond.instantiable RJx4a65c 3) (by decide +kernel)
  have hiniJx4a65c := hts (Cond.initialized RJx4a65c) (by decide +kernel)
  have hiJx4a65c : ∀ w ∈ u_ws RJx4a65c TJx4a65c 3, w ∈ wsX13_together := by decide +kernel
  have himJx4a65c_init_da8c8 := hts (Cond.instanceMethod yJx4a65c_init_da8c8) (by decide +kernel)
  have hml100 := hts (Cond.methodLink RX13 100 yJx4a65c_init_da8c8) (by decide +kernel)
  refine va_new (ci := 1) (fs := [.int 0, .null, .int 0]) (C := RJx4a65c) (T := TJx4a65c) (N := 3) hx hb hts hiJx4a65c tyJx4a65c tyJx4a65c_ok hown hcl98 hinJx4a65c hiniJx4a65c hK hP hD hS hA rfl (fun j hj => by rcases (show j = 0 ∨ j = 1 ∨ j = 2 by omega) with rfl | rfl | rfl <;> rfl) (Nat.le_of_ble_eq_true rfl) (Nat.le_of_ble_eq_true rfl) dX13_together_0 (fun q_1 H_2 hP hD hS => ?_)
  have hP : va_P (dC, dI) vwCl [(mo, .inr (15, [.int m0, .ref m1, .ref m2, .int m3, .ref m4, .ref m5, .ref m6, va_rf (m7), .ref m8, .int m9, .int m10, .int m11, .int m12, .int m13])), (ra, .inl (g 0, 0, .inl fa)), (rb, .inl (g 0, 0, .inl fb)), (q_1, .inr (1, [.int 0, .null, .int 0]))] H_2 := hP
  have hD : va_D A [(mo, .inr (15, [.int m0, .ref m1, .ref m2, .int m3, .ref m4, .ref m5, .ref m6, va_rf (m7), .ref m8, .int m9, .int m10, .int m11, .int m12, .int m13])), (ra, .inl (g 0, 0, .inl fa)), (rb, .inl (g 0, 0, .inl fb)), (q_1, .inr (1, [.int 0, .null, .int 0]))] := hD
  refine W.widen (k := 1) (n := 3) (by omega) (by omega) ?_
  refine lv_dup hx hb dX13_together_3 rfl ?_
  have hPc := hP.sub (ws' := [(q_1, .inr (1, [.int 0, .null, .int 0]))]) [3] rfl
  have hDc := hD.sub (ws' := [(q_1, .inr (1, [.int 0, .null, .int 0]))]) [3] (by decide) rfl
  have hFc := va_free (wc := [(q_1, .inr (1, [.int 0, .null, .int 0]))]) hD hS hA [3] rfl
  refine va_callv (va_runI (As := []) (rest := [.ref q_1]) ⟨hx, hb, hml, hown, hts⟩ (c_Jx4a65c_init_da8c8 l dC dI g q_1  H_2.size) (cwI 0 hts gX13_together_Jx4a65c_init_da8c8 rfl rfl rfl hiniJx4a65c hml100 himJx4a65c_init_da8c8 rfl (by decide +kernel) ⟨Nat.le_of_ble_eq_true rfl, Nat.le_of_ble_eq_true rfl⟩) ⟨PG_blind, PG_call hK hG hS hPc hDc hFc⟩ rfl rfl hl.1 rfl (lv_room (Nat.le_of_ble_eq_true rfl)) dX13_together_4 ⟨Nat.le_of_ble_eq_true rfl, Nat.le_of_ble_eq_true rfl⟩) hS (fun q _ h => hFc q h) hFc (fun u_3 t_3 H_3 L_3 ht_3 hvm_3 hw_3 hB_3 hz_3 hk_3 hS => ?_)
  obtain ⟨hP1, hD1⟩ := hB_3
  rw [ht_3] at hP1
  obtain ⟨hP, hD⟩ := va_join (wr := [(mo, .inr (15, [.int m0, .ref m1, .ref m2, .int m3, .ref m4, .ref m5, .ref m6, va_rf (m7), .ref m8, .int m9, .int m10, .int m11, .int m12, .int m13])), (ra, .inl (g 0, 0, .inl fa)), (rb, .inl (g 0, 0, .inl fb))]) (w1 := [(q_1, .inr (1, [.int 0, .ref (g 10), .int 0]))]) hP hD [3] [0, 1, 2] rfl rfl (by decide) (by decide) hk_3 hFc hP1 hD1
  have hP : va_P (dC, dI) vwCl [(mo, .inr (15, [.int m0, .ref m1, .ref m2, .int m3, .ref m4, .ref m5, .ref m6, va_rf (m7), .ref m8, .int m9, .int m10, .int m11, .int m12, .int m13])), (ra, .inl (g 0, 0, .inl fa)), (rb, .inl (g 0, 0, .inl fb)), (q_1, .inr (1, [.int 0, .ref (g 10), .int 0]))] H_3 := hP
  have hD : va_D A [(mo, .inr (15, [.int m0, .ref m1, .ref m2, .int m3, .ref m4, .ref m5, .ref m6, va_rf (m7), .ref m8, .int m9, .int m10, .int m11, .int m12, .int m13])), (ra, .inl (g 0, 0, .inl fa)), (rb, .inl (g 0, 0, .inl fb)), (q_1, .inr (1, [.int 0, .ref (g 10), .int 0]))] := hD
  refine lv_astore (lv' := [(4, .ref q_1), (0, .ref mo), (1, .ref ra), (2, .ref rb), (3, .int hw)]) hx hb dX13_together_7 hl (by decide) rfl (fun ls hl => ?_)
  refine lv_iconst (v := 0) hx hb dX13_together_9 (by decide) ?_
  refine lv_istore (lv' := [(5, .int 0), (4, .ref q_1), (0, .ref mo), (1, .ref ra), (2, .ref rb), (3, .int hw)]) hx hb dX13_together_10 hl (by decide) rfl (fun ls hl => ?_)
  refine lv_iload hx hb dX13_together_12 (lv_at hl 0 rfl) ?_
  refine lv_aload_n hx hb dX13_together_14 rfl (lv_at hl 3 rfl) ?_
  refine va_alen hx hb hK hP 1 0 rfl rfl (v := 0) rfl dX13_together_15 ?_
  refine lv_icmp_ge (tgt := 72) hx hb dX13_together_16 (by decide) (fun c_4 => ?_) (fun c_4 => absurd (by decide) c_4)
  refine lv_iconst (v := 0) hx hb dX13_together_72 (by decide) ?_
  refine lv_istore (lv' := [(5, .int 0), (4, .ref q_1), (0, .ref mo), (1, .ref ra), (2, .ref rb), (3, .int hw)]) hx hb dX13_together_73 hl (by decide) rfl (fun ls hl => ?_)
  refine lv_iload hx hb dX13_together_75 (lv_at hl 0 rfl) ?_
  refine lv_aload_n hx hb dX13_together_77 rfl (lv_at hl 4 rfl) ?_
  refine va_alen hx hb hK hP 2 0 rfl rfl (v := 0) rfl dX13_together_78 ?_
  refine lv_icmp_ge (tgt := 108) hx hb dX13_together_79 (by decide) (fun c_5 => ?_) (fun c_5 => absurd (by decide) c_5)
  refine lv_aload hx hb dX13_together_108 (lv_at hl 1 rfl) ?_
  have hPc := hP.sub (ws' := [(q_1, .inr (1, [.int 0, .ref (g 10), .int 0]))]) [3] rfl
  have hDc := hD.sub (ws' := [(q_1, .inr (1, [.int 0, .ref (g 10), .int 0]))]) [3] (by decide) rfl
  have hFc := va_free (wc := [(q_1, .inr (1, [.int 0, .ref (g 10), .int 0]))]) hD hS hA [3] rfl
  refine va_callq (va_runS (As := [.ref q_1]) (rest := []) ⟨hx, hb, hml, hown, hts⟩ (c_X13_rowOf l dC dI g q_1 0  H_3.size) (va_cwS 1 hts gX13_together_X13_rowOf rfl rfl rfl (by decide +kernel) ⟨Nat.le_of_ble_eq_true rfl, Nat.le_of_ble_eq_true rfl⟩) ⟨PG_blind, PG_call hK hG hS hPc hDc hFc⟩ rfl rfl hl.1 rfl (lv_room (Nat.le_of_ble_eq_true rfl)) dX13_together_110 ⟨Nat.le_of_ble_eq_true rfl, Nat.le_of_ble_eq_true rfl⟩) hS (fun q _ h => hFc q h) hFc (fun r_6 u_6 t_6 H_6 L_6 ht_6 hvm_6 hw_6 hB_6 hz_6 hk_6 hS => ?_)
  obtain ⟨hP1, hD1⟩ := hB_6
  rw [ht_6] at hP1
  obtain ⟨hP, hD⟩ := va_join (wr := [(mo, .inr (15, [.int m0, .ref m1, .ref m2, .int m3, .ref m4, .ref m5, .ref m6, va_rf (m7), .ref m8, .int m9, .int m10, .int m11, .int m12, .int m13])), (ra, .inl (g 0, 0, .inl fa)), (rb, .inl (g 0, 0, .inl fb))]) (w1 := [(q_1, .inr (1, [.int 0, .ref (g 10), .int 0])), ((u_6 0), .inl (g 0, 0, .inl (fun _ => 0)))]) hP hD [3] [0, 1, 2] rfl rfl (by decide) (by decide) hk_6 hFc hP1 hD1
  have hP : va_P (dC, dI) vwCl [(mo, .inr (15, [.int m0, .ref m1, .ref m2, .int m3, .ref m4, .ref m5, .ref m6, va_rf (m7), .ref m8, .int m9, .int m10, .int m11, .int m12, .int m13])), (ra, .inl (g 0, 0, .inl fa)), (rb, .inl (g 0, 0, .inl fb)), (q_1, .inr (1, [.int 0, .ref (g 10), .int 0])), ((u_6 0), .inl (g 0, 0, .inl (fun _ => 0)))] H_6 := hP
  have hD : va_D A [(mo, .inr (15, [.int m0, .ref m1, .ref m2, .int m3, .ref m4, .ref m5, .ref m6, va_rf (m7), .ref m8, .int m9, .int m10, .int m11, .int m12, .int m13])), (ra, .inl (g 0, 0, .inl fa)), (rb, .inl (g 0, 0, .inl fb)), (q_1, .inr (1, [.int 0, .ref (g 10), .int 0])), ((u_6 0), .inl (g 0, 0, .inl (fun _ => 0)))] := hD
  refine W.widen (k := 2) (n := 3) (by omega) (by omega) ?_
  obtain rfl : r_6 = some (u_6 0) := hw_6
  refine W.eq (g2 := F0 m 113 ls [.ref (u_6 0)]) rfl ?_
  refine lv_astore (lv' := [(5, .ref (u_6 0)), (4, .ref q_1), (0, .ref mo), (1, .ref ra), (2, .ref rb), (3, .int hw)]) hx hb dX13_together_113 hl (by decide) rfl (fun ls hl => ?_)
  refine lv_aload_n hx hb dX13_together_115 rfl (lv_at hl 2 rfl) ?_
  refine lv_aload hx hb dX13_together_116 (lv_at hl 0 rfl) ?_
  refine lv_iconst (v := 0) hx hb dX13_together_118 (by decide) ?_
  refine va_callv (va_runV (As := [.ref (u_6 0), .int 0]) (rest := []) ⟨hx, hb, hml, hown, hts⟩ (c_X13_inserts l dC dI g [(mo, .inr (15, [.int m0, .ref m1, .ref m2, .int m3, .ref m4, .ref m5, .ref m6, va_rf (m7), .ref m8, .int m9, .int m10, .int m11, .int m12, .int m13])), (ra, .inl (g 0, 0, .inl fa)), (rb, .inl (g 0, 0, .inl fb)), (q_1, .inr (1, [.int 0, .ref (g 10), .int 0])), ((u_6 0), .inl (g 0, 0, .inl (fun _ => 0)))] mo (u_6 0) 0 (fun _ => 0) 4 rfl  H_6.size) (cwV 2 hts gX13_together_X13_inserts rfl rfl rfl (by decide +kernel) ⟨Nat.le_of_ble_eq_true rfl, Nat.le_of_ble_eq_true rfl⟩) ⟨PG_blind, va_recv hK hP (ci := 15) (q0 := 0) rfl rfl, PG_call hK hG hS hP hD (A_all hD hA hS.1)⟩ rfl rfl hl.1 rfl (lv_room (Nat.le_of_ble_eq_true rfl)) dX13_together_119 ⟨Nat.le_of_ble_eq_true rfl, Nat.le_of_ble_eq_true rfl⟩) hS (fun q _ h => (A_all hD hA hS.1) q h) (A_all hD hA hS.1) (fun u_7 t_7 H_7 L_7 ht_7 hvm_7 hw_7 hB_7 hz_7 hk_7 hS => ?_)
  replace hB_7 := (show va_P (dC, dI) vwCl [(mo, .inr (15, [.int m0, .ref m1, .ref m2, .int m3, .ref m4, .ref m5, .ref m6, va_rf (m7), .ref m8, .int m9, .int m10, .int m11, .int m12, .int m13])), (ra, .inl (g 0, 0, .inl fa)), (rb, .inl (g 0, 0, .inl fb)), (q_1, .inr (1, [.int 0, .ref (g 10), .int 0])), ((u_6 0), .inl (g 0, 0, .inl (fun _ => 0)))] t_7.heap from hB_7)
  rw [ht_7] at hB_7
  have hP := hB_7
  refine lv_aload hx hb dX13_together_122 (lv_at hl 0 rfl) ?_
  have hP9 := hP.sub (ws' := [(mo, .inr (15, [.int m0, .ref m1, .ref m2, .int m3, .ref m4, .ref m5, .ref m6, va_rf (m7), .ref m8, .int m9, .int m10, .int m11, .int m12, .int m13])), (ra, .inl (g 0, 0, .inl fa)), (rb, .inl (g 0, 0, .inl fb)), ((u_6 0), .inl (g 0, 0, .inl (fun _ => 0)))]) [0, 1, 2, 4] rfl
  have hD9 := hD.sub (ws' := [(mo, .inr (15, [.int m0, .ref m1, .ref m2, .int m3, .ref m4, .ref m5, .ref m6, va_rf (m7), .ref m8, .int m9, .int m10, .int m11, .int m12, .int m13])), (ra, .inl (g 0, 0, .inl fa)), (rb, .inl (g 0, 0, .inl fb)), ((u_6 0), .inl (g 0, 0, .inl (fun _ => 0)))]) [0, 1, 2, 4] (by decide) rfl
  exact W.aret (v := .ref (u_6 0)) hx hb hr (Or.inr ⟨_, rfl⟩) (Or.inr ⟨_, rfl⟩) (fun t ht hW => ⟨⟨some (u_6 0), (fun j => ([(u_6 0)] : List Nat).getD j 0), rfl, rfl, ⟨P_at ht hP9, hD9⟩⟩, hS.F ht⟩) hS.2.2 dX13_together_124
set_option maxHeartbeats 4000000 in
set_option maxRecDepth 100000 in
theorem c_X13_together_s (l : Launch) (dC : Nat → ClassId) (dI : Nat → Nat → Nat) (g : Nat → ClassId) (mo : Nat) (ra : Nat) (hw : Int32) (fa : Nat → Int32) (m0 : Int32) (m1 : Nat) (m2 : Nat) (m3 : Int32) (m4 : Nat) (m5 : Nat) (m6 : Nat) (m7 : Option Nat) (m8 : Nat) (m9 : Int32) (m10 : Int32) (m11 : Int32) (m12 : Int32) (m13 : Int32) (sz : Nat) : Met l yX13_together wsX13_together ({ frames := 4, cells := 2, slots := 3, locals := 72 }) (va_Pc [.ref mo, .ref ra, .ref ra, .int hw] (PG (dC, dI) g [(mo, .inr (15, [.int m0, .ref m1, .ref m2, .int m3, .ref m4, .ref m5, .ref m6, va_rf (m7), .ref m8, .int m9, .int m10, .int m11, .int m12, .int m13])), (ra, .inl (g 0, 0, .inl fa))] sz)) (va_Qq (fun (r : Option Nat) (u : Nat → Nat) => r = some (u 0)) (fun (u : Nat → Nat) t9 => va_P (dC, dI) vwCl [(mo, .inr (15, [.int m0, .ref m1, .ref m2, .int m3, .ref m4, .ref m5, .ref m6, va_rf (m7), .ref m8, .int m9, .int m10, .int m11, .int m12, .int m13])), (ra, .inl (g 0, 0, .inl fa)), ((u 0), .inl (g 0, 0, .inl (fun _ => 0)))] t9.heap ∧ va_D (va_A [(mo, .inr (15, [.int m0, .ref m1, .ref m2, .int m3, .ref m4, .ref m5, .ref m6, va_rf (m7), .ref m8, .int m9, .int m10, .int m11, .int m12, .int m13])), (ra, .inl (g 0, 0, .inl fa))] sz) [(mo, .inr (15, [.int m0, .ref m1, .ref m2, .int m3, .ref m4, .ref m5, .ref m6, va_rf (m7), .ref m8, .int m9, .int m10, .int m11, .int m12, .int m13])), (ra, .inl (g 0, 0, .inl fa)), ((u 0), .inl (g 0, 0, .inl (fun _ => 0)))]) (va_A [(mo, .inr (15, [.int m0, .ref m1, .ref m2, .int m3, .ref m4, .ref m5, .ref m6, va_rf (m7), .ref m8, .int m9, .int m10, .int m11, .int m12, .int m13])), (ra, .inl (g 0, 0, .inl fa))] sz)) 2 3 (va_A [(mo, .inr (15, [.int m0, .ref m1, .ref m2, .int m3, .ref m4, .ref m5, .ref m6, va_rf (m7), .ref m8, .int m9, .int m10, .int m11, .int m12, .int m13])), (ra, .inl (g 0, 0, .inl fa))] sz) := by
  refine Met.ofW (cc := cX13_together) (maxL := 7) (ret := (some (.array .int))) (by decide) rfl ?_
  intro p e s m args below meth c s₁ B hml hv
  obtain ⟨rfl, hsz, hP, hK, hD0, hG⟩ := hv
  have hx := B.exec
  have hb := B.bytes
  have hr := B.returns
  have hts := atoms_spec (ws := wsX13_together) B.pre
  have hown : s.vm.findClass RX13 = some m.cls := findClass_of_methodNamed B.named
  have hlocks := B.notSynchronized
  subst hsz
  have hD := hD0.self (sz := s.heap.size)
  generalize hAe : va_A [(mo, .inr (15, [.int m0, .ref m1, .ref m2, .int m3, .ref m4, .ref m5, .ref m6, va_rf (m7), .ref m8, .int m9, .int m10, .int m11, .int m12, .int m13])), (ra, .inl (g 0, 0, .inl fa))] s.heap.size = A at hD hG ⊢
  have hA : ∀ q : Nat, s.heap.size ≤ q → A q := fun q h => by rw [← hAe]; exact Or.inr h
  have hS : va_S A s.heap s.heap [] := va_S.rf
  have hl := lv_entry ([.ref mo, .ref ra, .ref ra, .int hw]) (n := 7) (Nat.le_of_ble_eq_true rfl)
  rw [lg_entry_eq]
  generalize (lg_sl ([.ref mo, .ref ra, .ref ra, .int hw]) ++ List.replicate (7 - (lg_sl ([.ref mo, .ref ra, .ref ra, .int hw])).length) Slot.unset).toArray = ls at hl ⊢
  have hl : lv_has ls 7 [(0, .ref mo), (1, .ref ra), (2, .ref ra), (3, .int hw)] := hl
  have hcl98 := hts (Cond.classLink RX13 98 RJx4a65c) (by decide +kernel)
  have hinJx4a65c := hts (Cond.instantiable RJx4a65c 3) (by decide +kernel)
  have hiniJx4a65c := hts (Cond.initialized RJx4a65c) (by decide +kernel)
  have hiJx4a65c : ∀ w ∈ u_ws RJx4a65c TJx4a65c 3, w ∈ wsX13_together := by decide +kernel
  have himJx4a65c_init_da8c8 := hts (Cond.instanceMethod yJx4a65c_init_da8c8) (by decide +kernel)
  have hml100 := hts (Cond.methodLink RX13 100 yJx4a65c_init_da8c8) (by decide +kernel)
  refine va_new (ci := 1) (fs := [.int 0, .null, .int 0]) (C := RJx4a65c) (T := TJx4a65c) (N := 3) hx hb hts hiJx4a65c tyJx4a65c tyJx4a65c_ok hown hcl98 hinJx4a65c hiniJx4a65c hK hP hD hS hA rfl (fun j hj => by rcases (show j = 0 ∨ j = 1 ∨ j = 2 by omega) with rfl | rfl | rfl <;> rfl) (Nat.le_of_ble_eq_true rfl) (Nat.le_of_ble_eq_true rfl) dX13_together_0 (fun q_1 H_2 hP hD hS => ?_)
  have hP : va_P (dC, dI) vwCl [(mo, .inr (15, [.int m0, .ref m1, .ref m2, .int m3, .ref m4, .ref m5, .ref m6, va_rf (m7), .ref m8, .int m9, .int m10, .int m11, .int m12, .int m13])), (ra, .inl (g 0, 0, .inl fa)), (q_1, .inr (1, [.int 0, .null, .int 0]))] H_2 := hP
  have hD : va_D A [(mo, .inr (15, [.int m0, .ref m1, .ref m2, .int m3, .ref m4, .ref m5, .ref m6, va_rf (m7), .ref m8, .int m9, .int m10, .int m11, .int m12, .int m13])), (ra, .inl (g 0, 0, .inl fa)), (q_1, .inr (1, [.int 0, .null, .int 0]))] := hD
  refine W.widen (k := 1) (n := 3) (by omega) (by omega) ?_
  refine lv_dup hx hb dX13_together_3 rfl ?_
  have hPc := hP.sub (ws' := [(q_1, .inr (1, [.int 0, .null, .int 0]))]) [2] rfl
  have hDc := hD.sub (ws' := [(q_1, .inr (1, [.int 0, .null, .int 0]))]) [2] (by decide) rfl
  have hFc := va_free (wc := [(q_1, .inr (1, [.int 0, .null, .int 0]))]) hD hS hA [2] rfl
  refine va_callv (va_runI (As := []) (rest := [.ref q_1]) ⟨hx, hb, hml, hown, hts⟩ (c_Jx4a65c_init_da8c8 l dC dI g q_1  H_2.size) (cwI 0 hts gX13_together_Jx4a65c_init_da8c8 rfl rfl rfl hiniJx4a65c hml100 himJx4a65c_init_da8c8 rfl (by decide +kernel) ⟨Nat.le_of_ble_eq_true rfl, Nat.le_of_ble_eq_true rfl⟩) ⟨PG_blind, PG_call hK hG hS hPc hDc hFc⟩ rfl rfl hl.1 rfl (lv_room (Nat.le_of_ble_eq_true rfl)) dX13_together_4 ⟨Nat.le_of_ble_eq_true rfl, Nat.le_of_ble_eq_true rfl⟩) hS (fun q _ h => hFc q h) hFc (fun u_3 t_3 H_3 L_3 ht_3 hvm_3 hw_3 hB_3 hz_3 hk_3 hS => ?_)
  obtain ⟨hP1, hD1⟩ := hB_3
  rw [ht_3] at hP1
  obtain ⟨hP, hD⟩ := va_join (wr := [(mo, .inr (15, [.int m0, .ref m1, .ref m2, .int m3, .ref m4, .ref m5, .ref m6, va_rf (m7), .ref m8, .int m9, .int m10, .int m11, .int m12, .int m13])), (ra, .inl (g 0, 0, .inl fa))]) (w1 := [(q_1, .inr (1, [.int 0, .ref (g 10), .int 0]))]) hP hD [2] [0, 1] rfl rfl (by decide) (by decide) hk_3 hFc hP1 hD1
  have hP : va_P (dC, dI) vwCl [(mo, .inr (15, [.int m0, .ref m1, .ref m2, .int m3, .ref m4, .ref m5, .ref m6, va_rf (m7), .ref m8, .int m9, .int m10, .int m11, .int m12, .int m13])), (ra, .inl (g 0, 0, .inl fa)), (q_1, .inr (1, [.int 0, .ref (g 10), .int 0]))] H_3 := hP
  have hD : va_D A [(mo, .inr (15, [.int m0, .ref m1, .ref m2, .int m3, .ref m4, .ref m5, .ref m6, va_rf (m7), .ref m8, .int m9, .int m10, .int m11, .int m12, .int m13])), (ra, .inl (g 0, 0, .inl fa)), (q_1, .inr (1, [.int 0, .ref (g 10), .int 0]))] := hD
  refine lv_astore (lv' := [(4, .ref q_1), (0, .ref mo), (1, .ref ra), (2, .ref ra), (3, .int hw)]) hx hb dX13_together_7 hl (by decide) rfl (fun ls hl => ?_)
  refine lv_iconst (v := 0) hx hb dX13_together_9 (by decide) ?_
  refine lv_istore (lv' := [(5, .int 0), (4, .ref q_1), (0, .ref mo), (1, .ref ra), (2, .ref ra), (3, .int hw)]) hx hb dX13_together_10 hl (by decide) rfl (fun ls hl => ?_)
  refine lv_iload hx hb dX13_together_12 (lv_at hl 0 rfl) ?_
  refine lv_aload_n hx hb dX13_together_14 rfl (lv_at hl 3 rfl) ?_
  refine va_alen hx hb hK hP 1 0 rfl rfl (v := 0) rfl dX13_together_15 ?_
  refine lv_icmp_ge (tgt := 72) hx hb dX13_together_16 (by decide) (fun c_4 => ?_) (fun c_4 => absurd (by decide) c_4)
  refine lv_iconst (v := 0) hx hb dX13_together_72 (by decide) ?_
  refine lv_istore (lv' := [(5, .int 0), (4, .ref q_1), (0, .ref mo), (1, .ref ra), (2, .ref ra), (3, .int hw)]) hx hb dX13_together_73 hl (by decide) rfl (fun ls hl => ?_)
  refine lv_iload hx hb dX13_together_75 (lv_at hl 0 rfl) ?_
  refine lv_aload_n hx hb dX13_together_77 rfl (lv_at hl 4 rfl) ?_
  refine va_alen hx hb hK hP 1 0 rfl rfl (v := 0) rfl dX13_together_78 ?_
  refine lv_icmp_ge (tgt := 108) hx hb dX13_together_79 (by decide) (fun c_5 => ?_) (fun c_5 => absurd (by decide) c_5)
  refine lv_aload hx hb dX13_together_108 (lv_at hl 1 rfl) ?_
  have hPc := hP.sub (ws' := [(q_1, .inr (1, [.int 0, .ref (g 10), .int 0]))]) [2] rfl
  have hDc := hD.sub (ws' := [(q_1, .inr (1, [.int 0, .ref (g 10), .int 0]))]) [2] (by decide) rfl
  have hFc := va_free (wc := [(q_1, .inr (1, [.int 0, .ref (g 10), .int 0]))]) hD hS hA [2] rfl
  refine va_callq (va_runS (As := [.ref q_1]) (rest := []) ⟨hx, hb, hml, hown, hts⟩ (c_X13_rowOf l dC dI g q_1 0  H_3.size) (va_cwS 1 hts gX13_together_X13_rowOf rfl rfl rfl (by decide +kernel) ⟨Nat.le_of_ble_eq_true rfl, Nat.le_of_ble_eq_true rfl⟩) ⟨PG_blind, PG_call hK hG hS hPc hDc hFc⟩ rfl rfl hl.1 rfl (lv_room (Nat.le_of_ble_eq_true rfl)) dX13_together_110 ⟨Nat.le_of_ble_eq_true rfl, Nat.le_of_ble_eq_true rfl⟩) hS (fun q _ h => hFc q h) hFc (fun r_6 u_6 t_6 H_6 L_6 ht_6 hvm_6 hw_6 hB_6 hz_6 hk_6 hS => ?_)
  obtain ⟨hP1, hD1⟩ := hB_6
  rw [ht_6] at hP1
  obtain ⟨hP, hD⟩ := va_join (wr := [(mo, .inr (15, [.int m0, .ref m1, .ref m2, .int m3, .ref m4, .ref m5, .ref m6, va_rf (m7), .ref m8, .int m9, .int m10, .int m11, .int m12, .int m13])), (ra, .inl (g 0, 0, .inl fa))]) (w1 := [(q_1, .inr (1, [.int 0, .ref (g 10), .int 0])), ((u_6 0), .inl (g 0, 0, .inl (fun _ => 0)))]) hP hD [2] [0, 1] rfl rfl (by decide) (by decide) hk_6 hFc hP1 hD1
  have hP : va_P (dC, dI) vwCl [(mo, .inr (15, [.int m0, .ref m1, .ref m2, .int m3, .ref m4, .ref m5, .ref m6, va_rf (m7), .ref m8, .int m9, .int m10, .int m11, .int m12, .int m13])), (ra, .inl (g 0, 0, .inl fa)), (q_1, .inr (1, [.int 0, .ref (g 10), .int 0])), ((u_6 0), .inl (g 0, 0, .inl (fun _ => 0)))] H_6 := hP
  have hD : va_D A [(mo, .inr (15, [.int m0, .ref m1, .ref m2, .int m3, .ref m4, .ref m5, .ref m6, va_rf (m7), .ref m8, .int m9, .int m10, .int m11, .int m12, .int m13])), (ra, .inl (g 0, 0, .inl fa)), (q_1, .inr (1, [.int 0, .ref (g 10), .int 0])), ((u_6 0), .inl (g 0, 0, .inl (fun _ => 0)))] := hD
  refine W.widen (k := 2) (n := 3) (by omega) (by omega) ?_
  obtain rfl : r_6 = some (u_6 0) := hw_6
  refine W.eq (g2 := F0 m 113 ls [.ref (u_6 0)]) rfl ?_
  refine lv_astore (lv' := [(5, .ref (u_6 0)), (4, .ref q_1), (0, .ref mo), (1, .ref ra), (2, .ref ra), (3, .int hw)]) hx hb dX13_together_113 hl (by decide) rfl (fun ls hl => ?_)
  refine lv_aload_n hx hb dX13_together_115 rfl (lv_at hl 2 rfl) ?_
  refine lv_aload hx hb dX13_together_116 (lv_at hl 0 rfl) ?_
  refine lv_iconst (v := 0) hx hb dX13_together_118 (by decide) ?_
  refine va_callv (va_runV (As := [.ref (u_6 0), .int 0]) (rest := []) ⟨hx, hb, hml, hown, hts⟩ (c_X13_inserts l dC dI g [(mo, .inr (15, [.int m0, .ref m1, .ref m2, .int m3, .ref m4, .ref m5, .ref m6, va_rf (m7), .ref m8, .int m9, .int m10, .int m11, .int m12, .int m13])), (ra, .inl (g 0, 0, .inl fa)), (q_1, .inr (1, [.int 0, .ref (g 10), .int 0])), ((u_6 0), .inl (g 0, 0, .inl (fun _ => 0)))] mo (u_6 0) 0 (fun _ => 0) 3 rfl  H_6.size) (cwV 2 hts gX13_together_X13_inserts rfl rfl rfl (by decide +kernel) ⟨Nat.le_of_ble_eq_true rfl, Nat.le_of_ble_eq_true rfl⟩) ⟨PG_blind, va_recv hK hP (ci := 15) (q0 := 0) rfl rfl, PG_call hK hG hS hP hD (A_all hD hA hS.1)⟩ rfl rfl hl.1 rfl (lv_room (Nat.le_of_ble_eq_true rfl)) dX13_together_119 ⟨Nat.le_of_ble_eq_true rfl, Nat.le_of_ble_eq_true rfl⟩) hS (fun q _ h => (A_all hD hA hS.1) q h) (A_all hD hA hS.1) (fun u_7 t_7 H_7 L_7 ht_7 hvm_7 hw_7 hB_7 hz_7 hk_7 hS => ?_)
  replace hB_7 := (show va_P (dC, dI) vwCl [(mo, .inr (15, [.int m0, .ref m1, .ref m2, .int m3, .ref m4, .ref m5, .ref m6, va_rf (m7), .ref m8, .int m9, .int m10, .int m11, .int m12, .int m13])), (ra, .inl (g 0, 0, .inl fa)), (q_1, .inr (1, [.int 0, .ref (g 10), .int 0])), ((u_6 0), .inl (g 0, 0, .inl (fun _ => 0)))] t_7.heap from hB_7)
  rw [ht_7] at hB_7
  have hP := hB_7
  refine lv_aload hx hb dX13_together_122 (lv_at hl 0 rfl) ?_
  have hP9 := hP.sub (ws' := [(mo, .inr (15, [.int m0, .ref m1, .ref m2, .int m3, .ref m4, .ref m5, .ref m6, va_rf (m7), .ref m8, .int m9, .int m10, .int m11, .int m12, .int m13])), (ra, .inl (g 0, 0, .inl fa)), ((u_6 0), .inl (g 0, 0, .inl (fun _ => 0)))]) [0, 1, 3] rfl
  have hD9 := hD.sub (ws' := [(mo, .inr (15, [.int m0, .ref m1, .ref m2, .int m3, .ref m4, .ref m5, .ref m6, va_rf (m7), .ref m8, .int m9, .int m10, .int m11, .int m12, .int m13])), (ra, .inl (g 0, 0, .inl fa)), ((u_6 0), .inl (g 0, 0, .inl (fun _ => 0)))]) [0, 1, 3] (by decide) rfl
  exact W.aret (v := .ref (u_6 0)) hx hb hr (Or.inr ⟨_, rfl⟩) (Or.inr ⟨_, rfl⟩) (fun t ht hW => ⟨⟨some (u_6 0), (fun j => ([(u_6 0)] : List Nat).getD j 0), rfl, rfl, ⟨P_at ht hP9, hD9⟩⟩, hS.F ht⟩) hS.2.2 dX13_together_124
theorem mod_y {D : va_G} {A : Nat → Prop} {H : Heap} (b r1 r2 : Nat → Nat) (g : Nat → ClassId) (th : Int32) (j i : Nat) (hj : j < 8) (hi : i < 8) (hn : j ≠ i) (hP : va_P D vwCl (modW b r1 r2 g th) H) (hD : va_D A (modW b r1 r2 g th)) : va_P D vwCl [((b 0), .inr (15, [.int th, .ref (b 1), .ref (b 2), .int 0, .ref (b 3), .ref (b 4), .ref (b 5), .null, .ref (b 6), .int 0, .int 0, .int 0, .int 0, .int 0])), ((b 3), .inl (g 4, 8, .inr (.inr (.inr (.inr (fun i => if i < 8 then some (r1 i) else none)))))), ((r1 j), .inl (g 0, 0, .inl (fun _ => 0))), ((r1 i), .inl (g 0, 0, .inl (fun _ => 0))), ((b 1), .inl (g 0, 200, .inl (fun _ => 0))), ((b 2), .inl (g 0, 200, .inl (fun _ => 0))), ((b 5), .inl (g 0, 5, .inl stf))] H ∧ va_D A [((b 0), .inr (15, [.int th, .ref (b 1), .ref (b 2), .int 0, .ref (b 3), .ref (b 4), .ref (b 5), .null, .ref (b 6), .int 0, .int 0, .int 0, .int 0, .int 0])), ((b 3), .inl (g 4, 8, .inr (.inr (.inr (.inr (fun i => if i < 8 then some (r1 i) else none)))))), ((r1 j), .inl (g 0, 0, .inl (fun _ => 0))), ((r1 i), .inl (g 0, 0, .inl (fun _ => 0))), ((b 1), .inl (g 0, 200, .inl (fun _ => 0))), ((b 2), .inl (g 0, 200, .inl (fun _ => 0))), ((b 5), .inl (g 0, 5, .inl stf))] := by
  match j, i, hj, hi, hn with
  | 0, 1, _, _, _ => exact ⟨hP.sub [0, 3, 7, 8, 1, 2, 5] rfl, hD.sub [0, 3, 7, 8, 1, 2, 5] (by decide) rfl⟩
  | 0, 2, _, _, _ => exact ⟨hP.sub [0, 3, 7, 9, 1, 2, 5] rfl, hD.sub [0, 3, 7, 9, 1, 2, 5] (by decide) rfl⟩
  | 0, 3, _, _, _ => exact ⟨hP.sub [0, 3, 7, 10, 1, 2, 5] rfl, hD.sub [0, 3, 7, 10, 1, 2, 5] (by decide) rfl⟩
  | 0, 4, _, _, _ => exact ⟨hP.sub [0, 3, 7, 11, 1, 2, 5] rfl, hD.sub [0, 3, 7, 11, 1, 2, 5] (by decide) rfl⟩
  | 0, 5, _, _, _ => exact ⟨hP.sub [0, 3, 7, 12, 1, 2, 5] rfl, hD.sub [0, 3, 7, 12, 1, 2, 5] (by decide) rfl⟩
  | 0, 6, _, _, _ => exact ⟨hP.sub [0, 3, 7, 13, 1, 2, 5] rfl, hD.sub [0, 3, 7, 13, 1, 2, 5] (by decide) rfl⟩
  | 0, 7, _, _, _ => exact ⟨hP.sub [0, 3, 7, 14, 1, 2, 5] rfl, hD.sub [0, 3, 7, 14, 1, 2, 5] (by decide) rfl⟩
  | 1, 0, _, _, _ => exact ⟨hP.sub [0, 3, 8, 7, 1, 2, 5] rfl, hD.sub [0, 3, 8, 7, 1, 2, 5] (by decide) rfl⟩
  | 1, 2, _, _, _ => exact ⟨hP.sub [0, 3, 8, 9, 1, 2, 5] rfl, hD.sub [0, 3, 8, 9, 1, 2, 5] (by decide) rfl⟩
  | 1, 3, _, _, _ => exact ⟨hP.sub [0, 3, 8, 10, 1, 2, 5] rfl, hD.sub [0, 3, 8, 10, 1, 2, 5] (by decide) rfl⟩
  | 1, 4, _, _, _ => exact ⟨hP.sub [0, 3, 8, 11, 1, 2, 5] rfl, hD.sub [0, 3, 8, 11, 1, 2, 5] (by decide) rfl⟩
  | 1, 5, _, _, _ => exact ⟨hP.sub [0, 3, 8, 12, 1, 2, 5] rfl, hD.sub [0, 3, 8, 12, 1, 2, 5] (by decide) rfl⟩
  | 1, 6, _, _, _ => exact ⟨hP.sub [0, 3, 8, 13, 1, 2, 5] rfl, hD.sub [0, 3, 8, 13, 1, 2, 5] (by decide) rfl⟩
  | 1, 7, _, _, _ => exact ⟨hP.sub [0, 3, 8, 14, 1, 2, 5] rfl, hD.sub [0, 3, 8, 14, 1, 2, 5] (by decide) rfl⟩
  | 2, 0, _, _, _ => exact ⟨hP.sub [0, 3, 9, 7, 1, 2, 5] rfl, hD.sub [0, 3, 9, 7, 1, 2, 5] (by decide) rfl⟩
  | 2, 1, _, _, _ => exact ⟨hP.sub [0, 3, 9, 8, 1, 2, 5] rfl, hD.sub [0, 3, 9, 8, 1, 2, 5] (by decide) rfl⟩
  | 2, 3, _, _, _ => exact ⟨hP.sub [0, 3, 9, 10, 1, 2, 5] rfl, hD.sub [0, 3, 9, 10, 1, 2, 5] (by decide) rfl⟩
  | 2, 4, _, _, _ => exact ⟨hP.sub [0, 3, 9, 11, 1, 2, 5] rfl, hD.sub [0, 3, 9, 11, 1, 2, 5] (by decide) rfl⟩
  | 2, 5, _, _, _ => exact ⟨hP.sub [0, 3, 9, 12, 1, 2, 5] rfl, hD.sub [0, 3, 9, 12, 1, 2, 5] (by decide) rfl⟩
  | 2, 6, _, _, _ => exact ⟨hP.sub [0, 3, 9, 13, 1, 2, 5] rfl, hD.sub [0, 3, 9, 13, 1, 2, 5] (by decide) rfl⟩
  | 2, 7, _, _, _ => exact ⟨hP.sub [0, 3, 9, 14, 1, 2, 5] rfl, hD.sub [0, 3, 9, 14, 1, 2, 5] (by decide) rfl⟩
  | 3, 0, _, _, _ => exact ⟨hP.sub [0, 3, 10, 7, 1, 2, 5] rfl, hD.sub [0, 3, 10, 7, 1, 2, 5] (by decide) rfl⟩
  | 3, 1, _, _, _ => exact ⟨hP.sub [0, 3, 10, 8, 1, 2, 5] rfl, hD.sub [0, 3, 10, 8, 1, 2, 5] (by decide) rfl⟩
  | 3, 2, _, _, _ => exact ⟨hP.sub [0, 3, 10, 9, 1, 2, 5] rfl, hD.sub [0, 3, 10, 9, 1, 2, 5] (by decide) rfl⟩
  | 3, 4, _, _, _ => exact ⟨hP.sub [0, 3, 10, 11, 1, 2, 5] rfl, hD.sub [0, 3, 10, 11, 1, 2, 5] (by decide) rfl⟩
  | 3, 5, _, _, _ => exact ⟨hP.sub [0, 3, 10, 12, 1, 2, 5] rfl, hD.sub [0, 3, 10, 12, 1, 2, 5] (by decide) rfl⟩
  | 3, 6, _, _, _ => exact ⟨hP.sub [0, 3, 10, 13, 1, 2, 5] rfl, hD.sub [0, 3, 10, 13, 1, 2, 5] (by decide) rfl⟩
  | 3, 7, _, _, _ => exact ⟨hP.sub [0, 3, 10, 14, 1, 2, 5] rfl, hD.sub [0, 3, 10, 14, 1, 2, 5] (by decide) rfl⟩
  | 4, 0, _, _, _ => exact ⟨hP.sub [0, 3, 11, 7, 1, 2, 5] rfl, hD.sub [0, 3, 11, 7, 1, 2, 5] (by decide) rfl⟩
  | 4, 1, _, _, _ => exact ⟨hP.sub [0, 3, 11, 8, 1, 2, 5] rfl, hD.sub [0, 3, 11, 8, 1, 2, 5] (by decide) rfl⟩
  | 4, 2, _, _, _ => exact ⟨hP.sub [0, 3, 11, 9, 1, 2, 5] rfl, hD.sub [0, 3, 11, 9, 1, 2, 5] (by decide) rfl⟩
  | 4, 3, _, _, _ => exact ⟨hP.sub [0, 3, 11, 10, 1, 2, 5] rfl, hD.sub [0, 3, 11, 10, 1, 2, 5] (by decide) rfl⟩
  | 4, 5, _, _, _ => exact ⟨hP.sub [0, 3, 11, 12, 1, 2, 5] rfl, hD.sub [0, 3, 11, 12, 1, 2, 5] (by decide) rfl⟩
  | 4, 6, _, _, _ => exact ⟨hP.sub [0, 3, 11, 13, 1, 2, 5] rfl, hD.sub [0, 3, 11, 13, 1, 2, 5] (by decide) rfl⟩
  | 4, 7, _, _, _ => exact ⟨hP.sub [0, 3, 11, 14, 1, 2, 5] rfl, hD.sub [0, 3, 11, 14, 1, 2, 5] (by decide) rfl⟩
  | 5, 0, _, _, _ => exact ⟨hP.sub [0, 3, 12, 7, 1, 2, 5] rfl, hD.sub [0, 3, 12, 7, 1, 2, 5] (by decide) rfl⟩
  | 5, 1, _, _, _ => exact ⟨hP.sub [0, 3, 12, 8, 1, 2, 5] rfl, hD.sub [0, 3, 12, 8, 1, 2, 5] (by decide) rfl⟩
  | 5, 2, _, _, _ => exact ⟨hP.sub [0, 3, 12, 9, 1, 2, 5] rfl, hD.sub [0, 3, 12, 9, 1, 2, 5] (by decide) rfl⟩
  | 5, 3, _, _, _ => exact ⟨hP.sub [0, 3, 12, 10, 1, 2, 5] rfl, hD.sub [0, 3, 12, 10, 1, 2, 5] (by decide) rfl⟩
  | 5, 4, _, _, _ => exact ⟨hP.sub [0, 3, 12, 11, 1, 2, 5] rfl, hD.sub [0, 3, 12, 11, 1, 2, 5] (by decide) rfl⟩
  | 5, 6, _, _, _ => exact ⟨hP.sub [0, 3, 12, 13, 1, 2, 5] rfl, hD.sub [0, 3, 12, 13, 1, 2, 5] (by decide) rfl⟩
  | 5, 7, _, _, _ => exact ⟨hP.sub [0, 3, 12, 14, 1, 2, 5] rfl, hD.sub [0, 3, 12, 14, 1, 2, 5] (by decide) rfl⟩
  | 6, 0, _, _, _ => exact ⟨hP.sub [0, 3, 13, 7, 1, 2, 5] rfl, hD.sub [0, 3, 13, 7, 1, 2, 5] (by decide) rfl⟩
  | 6, 1, _, _, _ => exact ⟨hP.sub [0, 3, 13, 8, 1, 2, 5] rfl, hD.sub [0, 3, 13, 8, 1, 2, 5] (by decide) rfl⟩
  | 6, 2, _, _, _ => exact ⟨hP.sub [0, 3, 13, 9, 1, 2, 5] rfl, hD.sub [0, 3, 13, 9, 1, 2, 5] (by decide) rfl⟩
  | 6, 3, _, _, _ => exact ⟨hP.sub [0, 3, 13, 10, 1, 2, 5] rfl, hD.sub [0, 3, 13, 10, 1, 2, 5] (by decide) rfl⟩
  | 6, 4, _, _, _ => exact ⟨hP.sub [0, 3, 13, 11, 1, 2, 5] rfl, hD.sub [0, 3, 13, 11, 1, 2, 5] (by decide) rfl⟩
  | 6, 5, _, _, _ => exact ⟨hP.sub [0, 3, 13, 12, 1, 2, 5] rfl, hD.sub [0, 3, 13, 12, 1, 2, 5] (by decide) rfl⟩
  | 6, 7, _, _, _ => exact ⟨hP.sub [0, 3, 13, 14, 1, 2, 5] rfl, hD.sub [0, 3, 13, 14, 1, 2, 5] (by decide) rfl⟩
  | 7, 0, _, _, _ => exact ⟨hP.sub [0, 3, 14, 7, 1, 2, 5] rfl, hD.sub [0, 3, 14, 7, 1, 2, 5] (by decide) rfl⟩
  | 7, 1, _, _, _ => exact ⟨hP.sub [0, 3, 14, 8, 1, 2, 5] rfl, hD.sub [0, 3, 14, 8, 1, 2, 5] (by decide) rfl⟩
  | 7, 2, _, _, _ => exact ⟨hP.sub [0, 3, 14, 9, 1, 2, 5] rfl, hD.sub [0, 3, 14, 9, 1, 2, 5] (by decide) rfl⟩
  | 7, 3, _, _, _ => exact ⟨hP.sub [0, 3, 14, 10, 1, 2, 5] rfl, hD.sub [0, 3, 14, 10, 1, 2, 5] (by decide) rfl⟩
  | 7, 4, _, _, _ => exact ⟨hP.sub [0, 3, 14, 11, 1, 2, 5] rfl, hD.sub [0, 3, 14, 11, 1, 2, 5] (by decide) rfl⟩
  | 7, 5, _, _, _ => exact ⟨hP.sub [0, 3, 14, 12, 1, 2, 5] rfl, hD.sub [0, 3, 14, 12, 1, 2, 5] (by decide) rfl⟩
  | 7, 6, _, _, _ => exact ⟨hP.sub [0, 3, 14, 13, 1, 2, 5] rfl, hD.sub [0, 3, 14, 13, 1, 2, 5] (by decide) rfl⟩
  | 0, 0, _, _, h => exact absurd rfl h
  | 1, 1, _, _, h => exact absurd rfl h
  | 2, 2, _, _, h => exact absurd rfl h
  | 3, 3, _, _, h => exact absurd rfl h
  | 4, 4, _, _, h => exact absurd rfl h
  | 5, 5, _, _, h => exact absurd rfl h
  | 6, 6, _, _, h => exact absurd rfl h
  | 7, 7, _, _, h => exact absurd rfl h
set_option maxHeartbeats 4000000 in
set_option maxRecDepth 100000 in
theorem c_X13_combine (l : Launch) (dC : Nat → ClassId) (dI : Nat → Nat → Nat) (g : Nat → ClassId) (b : Nat → Nat) (r1 : Nat → Nat) (r2 : Nat → Nat) (x : Int32) (y : Int32) (z : Int32) (k : Int32) (th : Int32) (sz : Nat) : Met l yX13_combine wsX13_combine ({ frames := 5, cells := 8, slots := 20, locals := 98 }) (va_Pc [.ref (b 0), .int x, .int y, .int z, .int k] (PG (dC, dI) g (modW b r1 r2 g th) sz)) (va_Qi (fun (r : Int32) (_ : Unit) => (cd (TOKb x && TOKb y && TOKb z) (rngb k 0 2) (TOKb x && TOKb y && TOKb z)) = 0 → r = 0) (fun (_ : Unit) t => ∃ fs : List Value, va_P (dC, dI) vwCl [(b 0, .inr (15, .int (cd (TOKb x && TOKb y && TOKb z) (rngb k 0 2) (TOKb x && TOKb y && TOKb z)) :: fs))] t.heap) (va_A (modW b r1 r2 g th) sz)) 8 20 (va_A (modW b r1 r2 g th) sz) := by
  refine Met.ofW (cc := cX13_combine) (maxL := 6) (ret := (some .int)) (by decide) rfl ?_
  intro p e s m args below meth c s₁ B hml hv
  obtain ⟨rfl, hsz, hP, hK, hD0, hG⟩ := hv
  have hx := B.exec
  have hb := B.bytes
  have hr := B.returns
  have hts := atoms_spec (ws := wsX13_combine) B.pre
  have hown : s.vm.findClass RX13 = some m.cls := findClass_of_methodNamed B.named
  have hlocks := B.notSynchronized
  subst hsz
  have hD := hD0.self (sz := s.heap.size)
  generalize hAe : va_A (modW b r1 r2 g th) s.heap.size = A at hD hG ⊢
  have hA : ∀ q : Nat, s.heap.size ≤ q → A q := fun q h => by rw [← hAe]; exact Or.inr h
  have hS : va_S A s.heap s.heap [] := va_S.rf
  have hl := lv_entry ([.ref (b 0), .int x, .int y, .int z, .int k]) (n := 6) (Nat.le_of_ble_eq_true rfl)
  rw [lg_entry_eq]
  generalize (lg_sl ([.ref (b 0), .int x, .int y, .int z, .int k]) ++ List.replicate (6 - (lg_sl ([.ref (b 0), .int x, .int y, .int z, .int k])).length) Slot.unset).toArray = ls at hl ⊢
  have hl : lv_has ls 6 [(0, .ref (b 0)), (1, .int x), (2, .int y), (3, .int z), (4, .int k)] := hl
  have hf29 := hts (Cond.fieldLink RX13 29 "RunmergeOfficeModel" "tapes" "[[I") (by decide +kernel)
  have hiX13 : ∀ w ∈ u_ws RX13 TX13 14, w ∈ wsX13_combine := by decide +kernel
  refine lv_iload_n hx hb dX13_combine_0 rfl (lv_at hl 1 rfl) ?_
  refine va_calli (va_runS (As := [.int x]) (rest := []) ⟨hx, hb, hml, hown, hts⟩ (c_X13_isTape l dC dI g (modW b r1 r2 g th) x   s.heap.size) (va_cwS 1 hts gX13_combine_X13_isTape rfl rfl rfl (by decide +kernel) ⟨Nat.le_of_ble_eq_true rfl, Nat.le_of_ble_eq_true rfl⟩) ⟨PG_blind, PG_call hK hG hS hP hD (A_all hD hA hS.1)⟩ rfl rfl hl.1 rfl (lv_room (Nat.le_of_ble_eq_true rfl)) dX13_combine_1 ⟨Nat.le_of_ble_eq_true rfl, Nat.le_of_ble_eq_true rfl⟩) hS (fun q _ h => (A_all hD hA hS.1) q h) (A_all hD hA hS.1) (fun r_1 u_1 t_1 H_1 L_1 ht_1 hvm_1 hw_1 hB_1 hz_1 hk_1 hS => ?_)
  replace hB_1 := (show va_P (dC, dI) vwCl (modW b r1 r2 g th) t_1.heap from hB_1)
  rw [ht_1] at hB_1
  have hP := hB_1
  obtain rfl : r_1 = b2i (TOKb x) := hw_1
  refine lv_if_eq (tgt := 25) hx hb dX13_combine_4 (by decide) (fun c_2 => ?_) (fun c_2 => ?_)
  · have hB_3 : (TOKb x) = false := b2i_0 c_2
    refine lv_iconst (v := 0) hx hb dX13_combine_25 (by decide) ?_
    refine lv_istore (lv' := [(5, .int 0), (0, .ref (b 0)), (1, .int x), (2, .int y), (3, .int z), (4, .int k)]) hx hb dX13_combine_26 hl (by decide) rfl (fun ls hl => ?_)
    refine lv_aload_n hx hb dX13_combine_28 rfl (lv_at hl 1 rfl) ?_
    refine lv_iload hx hb dX13_combine_29 (lv_at hl 0 rfl) ?_
    refine lv_iload hx hb dX13_combine_31 (lv_at hl 5 rfl) ?_
    refine lv_iconst (v := 0) hx hb dX13_combine_33 (by decide) ?_
    refine lv_iconst (v := 2) hx hb dX13_combine_34 (by decide) ?_
    refine va_calli (va_runS (As := [.int k, .int 0, .int 2]) (rest := [.int 0, .ref (b 0)]) ⟨hx, hb, hml, hown, hts⟩ (c_X13_in l dC dI g (modW b r1 r2 g th) k 0 2   H_1.size) (va_cwS 3 hts gX13_combine_X13_in rfl rfl rfl (by decide +kernel) ⟨Nat.le_of_ble_eq_true rfl, Nat.le_of_ble_eq_true rfl⟩) ⟨PG_blind, PG_call hK hG hS hP hD (A_all hD hA hS.1)⟩ rfl rfl hl.1 rfl (lv_room (Nat.le_of_ble_eq_true rfl)) dX13_combine_35 ⟨Nat.le_of_ble_eq_true rfl, Nat.le_of_ble_eq_true rfl⟩) hS (fun q _ h => (A_all hD hA hS.1) q h) (A_all hD hA hS.1) (fun r_4 u_4 t_4 H_4 L_4 ht_4 hvm_4 hw_4 hB_4 hz_4 hk_4 hS => ?_)
    replace hB_4 := (show va_P (dC, dI) vwCl (modW b r1 r2 g th) t_4.heap from hB_4)
    rw [ht_4] at hB_4
    have hP := hB_4
    obtain rfl : r_4 = b2i (rngb k 0 2) := hw_4
    refine lv_iload hx hb dX13_combine_38 (lv_at hl 0 rfl) ?_
    refine lv_if_eq (tgt := 68) hx hb dX13_combine_40 (by decide) (fun c_5 => ?_) (fun c_5 => absurd (by decide) c_5)
    refine lv_iconst (v := 0) hx hb dX13_combine_68 (by decide) ?_
    refine va_calli (va_runV (As := [.int 0, .int (b2i (rngb k 0 2)), .int 0]) (rest := []) ⟨hx, hb, hml, hown, hts⟩ (c_X13_passes l dC dI g b r1 r2 th false (rngb k 0 2) false  H_4.size) (cwV 3 hts gX13_combine_X13_passes rfl rfl rfl (by decide +kernel) ⟨Nat.le_of_ble_eq_true rfl, Nat.le_of_ble_eq_true rfl⟩) ⟨PG_blind, va_recv hK hP (ci := 15) (q0 := 0) rfl (m_0 b r1 r2 g th), PG_call hK hG hS hP hD (A_all hD hA hS.1)⟩ rfl rfl hl.1 rfl (lv_room (Nat.le_of_ble_eq_true rfl)) dX13_combine_69 ⟨Nat.le_of_ble_eq_true rfl, Nat.le_of_ble_eq_true rfl⟩) hS (fun q _ h => (A_all hD hA hS.1) q h) (A_all hD hA hS.1) (fun r_6 u_6 t_6 H_6 L_6 ht_6 hvm_6 hw_6 hB_6 hz_6 hk_6 hS => ?_)
    rw [ht_6] at hB_6
    have hP : va_P (dC, dI) vwCl (modW b r1 r2 g (cd false (rngb k 0 2) false)) H_6 := hB_6
    have hD : va_D A (modW b r1 r2 g (cd false (rngb k 0 2) false)) := va_D_th hD
    obtain rfl : r_6 = 0 := hw_6.trans (by simp [b2i])
    refine lv_if_ne (tgt := 77) hx hb dX13_combine_72 (by decide) (fun c_7 => absurd (by decide) c_7) (fun c_7 => ?_)
    refine lv_iconst (v := 0) hx hb dX13_combine_75 (by decide) ?_
    refine W.widen (k := 8) (n := 20) (by omega) (by omega) ?_
    have hcd : (cd false (rngb k 0 2) false) = (cd (TOKb x && TOKb y && TOKb z) (rngb k 0 2) (TOKb x && TOKb y && TOKb z)) := by simp [cd, hB_3]
    have hP8 := hP.sub (ws' := [((b 0), .inr (15, [.int (cd false (rngb k 0 2) false), .ref (b 1), .ref (b 2), .int 0, .ref (b 3), .ref (b 4), .ref (b 5), .null, .ref (b 6), .int 0, .int 0, .int 0, .int 0, .int 0]))]) [0] rfl
    rw [hcd] at hP8
    exact W.iret (v := 0) hx hb hr (fun t ht hW => ⟨⟨0, (), rfl, (fun h => by first | rfl | (exact absurd (cd_0.mp h) (by simp [hB_3]))), ⟨[.ref (b 1), .ref (b 2), .int 0, .ref (b 3), .ref (b 4), .ref (b 5), .null, .ref (b 6), .int 0, .int 0, .int 0, .int 0, .int 0], P_at ht hP8⟩⟩, hS.F ht⟩) hS.2.2 dX13_combine_76
  · have hB_3 : (TOKb x) = true := b2i_1 c_2
    obtain ⟨jx, hjx, rfl⟩ := TOK_ex hB_3
    refine lv_iload_n hx hb dX13_combine_7 rfl (lv_at hl 2 rfl) ?_
    refine va_calli (va_runS (As := [.int y]) (rest := []) ⟨hx, hb, hml, hown, hts⟩ (c_X13_isTape l dC dI g (modW b r1 r2 g th) y   H_1.size) (va_cwS 1 hts gX13_combine_X13_isTape rfl rfl rfl (by decide +kernel) ⟨Nat.le_of_ble_eq_true rfl, Nat.le_of_ble_eq_true rfl⟩) ⟨PG_blind, PG_call hK hG hS hP hD (A_all hD hA hS.1)⟩ rfl rfl hl.1 rfl (lv_room (Nat.le_of_ble_eq_true rfl)) dX13_combine_8 ⟨Nat.le_of_ble_eq_true rfl, Nat.le_of_ble_eq_true rfl⟩) hS (fun q _ h => (A_all hD hA hS.1) q h) (A_all hD hA hS.1) (fun r_8 u_8 t_8 H_8 L_8 ht_8 hvm_8 hw_8 hB_8 hz_8 hk_8 hS => ?_)
    replace hB_8 := (show va_P (dC, dI) vwCl (modW b r1 r2 g th) t_8.heap from hB_8)
    rw [ht_8] at hB_8
    have hP := hB_8
    obtain rfl : r_8 = b2i (TOKb y) := hw_8
    refine lv_if_eq (tgt := 25) hx hb dX13_combine_11 (by decide) (fun c_9 => ?_) (fun c_9 => ?_)
    · have hB_10 : (TOKb y) = false := b2i_0 c_9
      refine lv_iconst (v := 0) hx hb dX13_combine_25 (by decide) ?_
      refine lv_istore (lv' := [(5, .int 0), (0, .ref (b 0)), (1, .int (nI jx)), (2, .int y), (3, .int z), (4, .int k)]) hx hb dX13_combine_26 hl (by decide) rfl (fun ls hl => ?_)
      refine lv_aload_n hx hb dX13_combine_28 rfl (lv_at hl 1 rfl) ?_
      refine lv_iload hx hb dX13_combine_29 (lv_at hl 0 rfl) ?_
      refine lv_iload hx hb dX13_combine_31 (lv_at hl 5 rfl) ?_
      refine lv_iconst (v := 0) hx hb dX13_combine_33 (by decide) ?_
      refine lv_iconst (v := 2) hx hb dX13_combine_34 (by decide) ?_
      refine va_calli (va_runS (As := [.int k, .int 0, .int 2]) (rest := [.int 0, .ref (b 0)]) ⟨hx, hb, hml, hown, hts⟩ (c_X13_in l dC dI g (modW b r1 r2 g th) k 0 2   H_8.size) (va_cwS 3 hts gX13_combine_X13_in rfl rfl rfl (by decide +kernel) ⟨Nat.le_of_ble_eq_true rfl, Nat.le_of_ble_eq_true rfl⟩) ⟨PG_blind, PG_call hK hG hS hP hD (A_all hD hA hS.1)⟩ rfl rfl hl.1 rfl (lv_room (Nat.le_of_ble_eq_true rfl)) dX13_combine_35 ⟨Nat.le_of_ble_eq_true rfl, Nat.le_of_ble_eq_true rfl⟩) hS (fun q _ h => (A_all hD hA hS.1) q h) (A_all hD hA hS.1) (fun r_11 u_11 t_11 H_11 L_11 ht_11 hvm_11 hw_11 hB_11 hz_11 hk_11 hS => ?_)
      replace hB_11 := (show va_P (dC, dI) vwCl (modW b r1 r2 g th) t_11.heap from hB_11)
      rw [ht_11] at hB_11
      have hP := hB_11
      obtain rfl : r_11 = b2i (rngb k 0 2) := hw_11
      refine lv_iload hx hb dX13_combine_38 (lv_at hl 0 rfl) ?_
      refine lv_if_eq (tgt := 68) hx hb dX13_combine_40 (by decide) (fun c_12 => ?_) (fun c_12 => absurd (by decide) c_12)
      refine lv_iconst (v := 0) hx hb dX13_combine_68 (by decide) ?_
      refine va_calli (va_runV (As := [.int 0, .int (b2i (rngb k 0 2)), .int 0]) (rest := []) ⟨hx, hb, hml, hown, hts⟩ (c_X13_passes l dC dI g b r1 r2 th false (rngb k 0 2) false  H_11.size) (cwV 3 hts gX13_combine_X13_passes rfl rfl rfl (by decide +kernel) ⟨Nat.le_of_ble_eq_true rfl, Nat.le_of_ble_eq_true rfl⟩) ⟨PG_blind, va_recv hK hP (ci := 15) (q0 := 0) rfl (m_0 b r1 r2 g th), PG_call hK hG hS hP hD (A_all hD hA hS.1)⟩ rfl rfl hl.1 rfl (lv_room (Nat.le_of_ble_eq_true rfl)) dX13_combine_69 ⟨Nat.le_of_ble_eq_true rfl, Nat.le_of_ble_eq_true rfl⟩) hS (fun q _ h => (A_all hD hA hS.1) q h) (A_all hD hA hS.1) (fun r_13 u_13 t_13 H_13 L_13 ht_13 hvm_13 hw_13 hB_13 hz_13 hk_13 hS => ?_)
      rw [ht_13] at hB_13
      have hP : va_P (dC, dI) vwCl (modW b r1 r2 g (cd false (rngb k 0 2) false)) H_13 := hB_13
      have hD : va_D A (modW b r1 r2 g (cd false (rngb k 0 2) false)) := va_D_th hD
      obtain rfl : r_13 = 0 := hw_13.trans (by simp [b2i])
      refine lv_if_ne (tgt := 77) hx hb dX13_combine_72 (by decide) (fun c_14 => absurd (by decide) c_14) (fun c_14 => ?_)
      refine lv_iconst (v := 0) hx hb dX13_combine_75 (by decide) ?_
      refine W.widen (k := 8) (n := 20) (by omega) (by omega) ?_
      have hcd : (cd false (rngb k 0 2) false) = (cd (TOKb (nI jx) && TOKb y && TOKb z) (rngb k 0 2) (TOKb (nI jx) && TOKb y && TOKb z)) := by simp [cd, (TOK_j hjx rfl), hB_10]
      have hP8 := hP.sub (ws' := [((b 0), .inr (15, [.int (cd false (rngb k 0 2) false), .ref (b 1), .ref (b 2), .int 0, .ref (b 3), .ref (b 4), .ref (b 5), .null, .ref (b 6), .int 0, .int 0, .int 0, .int 0, .int 0]))]) [0] rfl
      rw [hcd] at hP8
      exact W.iret (v := 0) hx hb hr (fun t ht hW => ⟨⟨0, (), rfl, (fun h => by first | rfl | (exact absurd (cd_0.mp h) (by simp [(TOK_j hjx rfl), hB_10]))), ⟨[.ref (b 1), .ref (b 2), .int 0, .ref (b 3), .ref (b 4), .ref (b 5), .null, .ref (b 6), .int 0, .int 0, .int 0, .int 0, .int 0], P_at ht hP8⟩⟩, hS.F ht⟩) hS.2.2 dX13_combine_76
    · have hB_10 : (TOKb y) = true := b2i_1 c_9
      obtain ⟨jy, hjy, rfl⟩ := TOK_ex hB_10
      refine lv_iload_n hx hb dX13_combine_14 rfl (lv_at hl 3 rfl) ?_
      refine va_calli (va_runS (As := [.int z]) (rest := []) ⟨hx, hb, hml, hown, hts⟩ (c_X13_isTape l dC dI g (modW b r1 r2 g th) z   H_8.size) (va_cwS 1 hts gX13_combine_X13_isTape rfl rfl rfl (by decide +kernel) ⟨Nat.le_of_ble_eq_true rfl, Nat.le_of_ble_eq_true rfl⟩) ⟨PG_blind, PG_call hK hG hS hP hD (A_all hD hA hS.1)⟩ rfl rfl hl.1 rfl (lv_room (Nat.le_of_ble_eq_true rfl)) dX13_combine_15 ⟨Nat.le_of_ble_eq_true rfl, Nat.le_of_ble_eq_true rfl⟩) hS (fun q _ h => (A_all hD hA hS.1) q h) (A_all hD hA hS.1) (fun r_15 u_15 t_15 H_15 L_15 ht_15 hvm_15 hw_15 hB_15 hz_15 hk_15 hS => ?_)
      replace hB_15 := (show va_P (dC, dI) vwCl (modW b r1 r2 g th) t_15.heap from hB_15)
      rw [ht_15] at hB_15
      have hP := hB_15
      obtain rfl : r_15 = b2i (TOKb z) := hw_15
      refine lv_if_eq (tgt := 25) hx hb dX13_combine_18 (by decide) (fun c_16 => ?_) (fun c_16 => ?_)
      · have hB_17 : (TOKb z) = false := b2i_0 c_16
        refine lv_iconst (v := 0) hx hb dX13_combine_25 (by decide) ?_
        refine lv_istore (lv' := [(5, .int 0), (0, .ref (b 0)), (1, .int (nI jx)), (2, .int (nI jy)), (3, .int z), (4, .int k)]) hx hb dX13_combine_26 hl (by decide) rfl (fun ls hl => ?_)
        refine lv_aload_n hx hb dX13_combine_28 rfl (lv_at hl 1 rfl) ?_
        refine lv_iload hx hb dX13_combine_29 (lv_at hl 0 rfl) ?_
        refine lv_iload hx hb dX13_combine_31 (lv_at hl 5 rfl) ?_
        refine lv_iconst (v := 0) hx hb dX13_combine_33 (by decide) ?_
        refine lv_iconst (v := 2) hx hb dX13_combine_34 (by decide) ?_
        refine va_calli (va_runS (As := [.int k, .int 0, .int 2]) (rest := [.int 0, .ref (b 0)]) ⟨hx, hb, hml, hown, hts⟩ (c_X13_in l dC dI g (modW b r1 r2 g th) k 0 2   H_15.size) (va_cwS 3 hts gX13_combine_X13_in rfl rfl rfl (by decide +kernel) ⟨Nat.le_of_ble_eq_true rfl, Nat.le_of_ble_eq_true rfl⟩) ⟨PG_blind, PG_call hK hG hS hP hD (A_all hD hA hS.1)⟩ rfl rfl hl.1 rfl (lv_room (Nat.le_of_ble_eq_true rfl)) dX13_combine_35 ⟨Nat.le_of_ble_eq_true rfl, Nat.le_of_ble_eq_true rfl⟩) hS (fun q _ h => (A_all hD hA hS.1) q h) (A_all hD hA hS.1) (fun r_18 u_18 t_18 H_18 L_18 ht_18 hvm_18 hw_18 hB_18 hz_18 hk_18 hS => ?_)
        replace hB_18 := (show va_P (dC, dI) vwCl (modW b r1 r2 g th) t_18.heap from hB_18)
        rw [ht_18] at hB_18
        have hP := hB_18
        obtain rfl : r_18 = b2i (rngb k 0 2) := hw_18
        refine lv_iload hx hb dX13_combine_38 (lv_at hl 0 rfl) ?_
        refine lv_if_eq (tgt := 68) hx hb dX13_combine_40 (by decide) (fun c_19 => ?_) (fun c_19 => absurd (by decide) c_19)
        refine lv_iconst (v := 0) hx hb dX13_combine_68 (by decide) ?_
        refine va_calli (va_runV (As := [.int 0, .int (b2i (rngb k 0 2)), .int 0]) (rest := []) ⟨hx, hb, hml, hown, hts⟩ (c_X13_passes l dC dI g b r1 r2 th false (rngb k 0 2) false  H_18.size) (cwV 3 hts gX13_combine_X13_passes rfl rfl rfl (by decide +kernel) ⟨Nat.le_of_ble_eq_true rfl, Nat.le_of_ble_eq_true rfl⟩) ⟨PG_blind, va_recv hK hP (ci := 15) (q0 := 0) rfl (m_0 b r1 r2 g th), PG_call hK hG hS hP hD (A_all hD hA hS.1)⟩ rfl rfl hl.1 rfl (lv_room (Nat.le_of_ble_eq_true rfl)) dX13_combine_69 ⟨Nat.le_of_ble_eq_true rfl, Nat.le_of_ble_eq_true rfl⟩) hS (fun q _ h => (A_all hD hA hS.1) q h) (A_all hD hA hS.1) (fun r_20 u_20 t_20 H_20 L_20 ht_20 hvm_20 hw_20 hB_20 hz_20 hk_20 hS => ?_)
        rw [ht_20] at hB_20
        have hP : va_P (dC, dI) vwCl (modW b r1 r2 g (cd false (rngb k 0 2) false)) H_20 := hB_20
        have hD : va_D A (modW b r1 r2 g (cd false (rngb k 0 2) false)) := va_D_th hD
        obtain rfl : r_20 = 0 := hw_20.trans (by simp [b2i])
        refine lv_if_ne (tgt := 77) hx hb dX13_combine_72 (by decide) (fun c_21 => absurd (by decide) c_21) (fun c_21 => ?_)
        refine lv_iconst (v := 0) hx hb dX13_combine_75 (by decide) ?_
        refine W.widen (k := 8) (n := 20) (by omega) (by omega) ?_
        have hcd : (cd false (rngb k 0 2) false) = (cd (TOKb (nI jx) && TOKb (nI jy) && TOKb z) (rngb k 0 2) (TOKb (nI jx) && TOKb (nI jy) && TOKb z)) := by simp [cd, (TOK_j hjx rfl), (TOK_j hjy rfl), hB_17]
        have hP8 := hP.sub (ws' := [((b 0), .inr (15, [.int (cd false (rngb k 0 2) false), .ref (b 1), .ref (b 2), .int 0, .ref (b 3), .ref (b 4), .ref (b 5), .null, .ref (b 6), .int 0, .int 0, .int 0, .int 0, .int 0]))]) [0] rfl
        rw [hcd] at hP8
        exact W.iret (v := 0) hx hb hr (fun t ht hW => ⟨⟨0, (), rfl, (fun h => by first | rfl | (exact absurd (cd_0.mp h) (by simp [(TOK_j hjx rfl), (TOK_j hjy rfl), hB_17]))), ⟨[.ref (b 1), .ref (b 2), .int 0, .ref (b 3), .ref (b 4), .ref (b 5), .null, .ref (b 6), .int 0, .int 0, .int 0, .int 0, .int 0], P_at ht hP8⟩⟩, hS.F ht⟩) hS.2.2 dX13_combine_76
      · have hB_17 : (TOKb z) = true := b2i_1 c_16
        obtain ⟨jz, hjz, rfl⟩ := TOK_ex hB_17
        refine lv_iconst (v := 1) hx hb dX13_combine_21 (by decide) ?_
        refine lv_goto (tgt := 26) hx hb dX13_combine_22 (by decide) ?_
        refine lv_istore (lv' := [(5, .int 1), (0, .ref (b 0)), (1, .int (nI jx)), (2, .int (nI jy)), (3, .int (nI jz)), (4, .int k)]) hx hb dX13_combine_26 hl (by decide) rfl (fun ls hl => ?_)
        refine lv_aload_n hx hb dX13_combine_28 rfl (lv_at hl 1 rfl) ?_
        refine lv_iload hx hb dX13_combine_29 (lv_at hl 0 rfl) ?_
        refine lv_iload hx hb dX13_combine_31 (lv_at hl 5 rfl) ?_
        refine lv_iconst (v := 0) hx hb dX13_combine_33 (by decide) ?_
        refine lv_iconst (v := 2) hx hb dX13_combine_34 (by decide) ?_
        refine va_calli (va_runS (As := [.int k, .int 0, .int 2]) (rest := [.int 1, .ref (b 0)]) ⟨hx, hb, hml, hown, hts⟩ (c_X13_in l dC dI g (modW b r1 r2 g th) k 0 2   H_15.size) (va_cwS 3 hts gX13_combine_X13_in rfl rfl rfl (by decide +kernel) ⟨Nat.le_of_ble_eq_true rfl, Nat.le_of_ble_eq_true rfl⟩) ⟨PG_blind, PG_call hK hG hS hP hD (A_all hD hA hS.1)⟩ rfl rfl hl.1 rfl (lv_room (Nat.le_of_ble_eq_true rfl)) dX13_combine_35 ⟨Nat.le_of_ble_eq_true rfl, Nat.le_of_ble_eq_true rfl⟩) hS (fun q _ h => (A_all hD hA hS.1) q h) (A_all hD hA hS.1) (fun r_22 u_22 t_22 H_22 L_22 ht_22 hvm_22 hw_22 hB_22 hz_22 hk_22 hS => ?_)
        replace hB_22 := (show va_P (dC, dI) vwCl (modW b r1 r2 g th) t_22.heap from hB_22)
        rw [ht_22] at hB_22
        have hP := hB_22
        obtain rfl : r_22 = b2i (rngb k 0 2) := hw_22
        refine lv_iload hx hb dX13_combine_38 (lv_at hl 0 rfl) ?_
        refine lv_if_eq (tgt := 68) hx hb dX13_combine_40 (by decide) (fun c_23 => absurd c_23 (by decide)) (fun c_23 => ?_)
        by_cases hxy : jx = jy
        · subst hxy
          obtain ⟨hP, hD⟩ := mod_x b r1 r2 g th jx hjx hP hD
          have hP : va_P (dC, dI) vwCl [((b 0), .inr (15, [.int th, .ref (b 1), .ref (b 2), .int 0, .ref (b 3), .ref (b 4), .ref (b 5), .null, .ref (b 6), .int 0, .int 0, .int 0, .int 0, .int 0])), ((b 3), .inl (g 4, 8, .inr (.inr (.inr (.inr (fun i => if i < 8 then some (r1 i) else none)))))), ((r1 jx), .inl (g 0, 0, .inl (fun _ => 0))), ((b 1), .inl (g 0, 200, .inl (fun _ => 0))), ((b 2), .inl (g 0, 200, .inl (fun _ => 0))), ((b 5), .inl (g 0, 5, .inl stf))] H_22 := hP
          have hD : va_D A [((b 0), .inr (15, [.int th, .ref (b 1), .ref (b 2), .int 0, .ref (b 3), .ref (b 4), .ref (b 5), .null, .ref (b 6), .int 0, .int 0, .int 0, .int 0, .int 0])), ((b 3), .inl (g 4, 8, .inr (.inr (.inr (.inr (fun i => if i < 8 then some (r1 i) else none)))))), ((r1 jx), .inl (g 0, 0, .inl (fun _ => 0))), ((b 1), .inl (g 0, 200, .inl (fun _ => 0))), ((b 2), .inl (g 0, 200, .inl (fun _ => 0))), ((b 5), .inl (g 0, 5, .inl stf))] := hD
          refine lv_aload_n hx hb dX13_combine_43 rfl (lv_at hl 1 rfl) ?_
          refine lv_aload_n hx hb dX13_combine_44 rfl (lv_at hl 1 rfl) ?_
          refine va_get (D := (dC, dI)) (ci := 15) (v := .ref (b 3)) (C := RX13) (T := TX13) (N := 14) hx hb hts hiX13 hown hK hP 0 rfl rfl 4 (by decide) hf29 (fun _ h9 => h9) rfl dX13_combine_45 ?_
          refine lv_iload_n hx hb dX13_combine_48 rfl (lv_at hl 2 rfl) ?_
          refine va_aldA hx hb hK hP 1 rfl (vp_in_nI hjx (by decide)) dX13_combine_49 ?_
          refine W.eq (g2 := F0 m 50 ls [.ref (r1 jx), .ref (b 0), .int (b2i (rngb k 0 2)), .int 1, .ref (b 0)]) (by rw [nI_clamp (show jx < 2 ^ 31 by omega)]; simp only [if_pos hjx]; rfl) ?_
          refine lv_aload_n hx hb dX13_combine_50 rfl (lv_at hl 1 rfl) ?_
          refine va_get (D := (dC, dI)) (ci := 15) (v := .ref (b 3)) (C := RX13) (T := TX13) (N := 14) hx hb hts hiX13 hown hK hP 0 rfl rfl 4 (by decide) hf29 (fun _ h9 => h9) rfl dX13_combine_51 ?_
          refine lv_iload_n hx hb dX13_combine_54 rfl (lv_at hl 3 rfl) ?_
          refine va_aldA hx hb hK hP 1 rfl (vp_in_nI hjx (by decide)) dX13_combine_55 ?_
          refine W.eq (g2 := F0 m 56 ls [.ref (r1 jx), .ref (r1 jx), .ref (b 0), .int (b2i (rngb k 0 2)), .int 1, .ref (b 0)]) (by rw [nI_clamp (show jx < 2 ^ 31 by omega)]; simp only [if_pos hjx]; rfl) ?_
          refine lv_iload hx hb dX13_combine_56 (lv_at hl 5 rfl) ?_
          refine va_calli (va_runV (As := [.ref (r1 jx), .ref (r1 jx), .int k]) (rest := [.int (b2i (rngb k 0 2)), .int 1, .ref (b 0)]) ⟨hx, hb, hml, hown, hts⟩ (c_X13_canCombine l dC dI g [((b 0), .inr (15, [.int th, .ref (b 1), .ref (b 2), .int 0, .ref (b 3), .ref (b 4), .ref (b 5), .null, .ref (b 6), .int 0, .int 0, .int 0, .int 0, .int 0])), ((b 3), .inl (g 4, 8, .inr (.inr (.inr (.inr (fun i => if i < 8 then some (r1 i) else none)))))), ((r1 jx), .inl (g 0, 0, .inl (fun _ => 0))), ((b 1), .inl (g 0, 200, .inl (fun _ => 0))), ((b 2), .inl (g 0, 200, .inl (fun _ => 0))), ((b 5), .inl (g 0, 5, .inl stf))] (b 0) (r1 jx) (r1 jx) k (fun _ => 0) (fun _ => 0) th (b 1) (b 2) 0 (b 3) (b 4) (b 5) none (b 6) 0 0 0 0 0 0 rfl 2 rfl 2 rfl  H_22.size) (cwV 3 hts gX13_combine_X13_canCombine rfl rfl rfl (by decide +kernel) ⟨Nat.le_of_ble_eq_true rfl, Nat.le_of_ble_eq_true rfl⟩) ⟨PG_blind, va_recv hK hP (ci := 15) (q0 := 0) rfl rfl, PG_call hK hG hS hP hD (A_all hD hA hS.1)⟩ rfl rfl hl.1 rfl (lv_room (Nat.le_of_ble_eq_true rfl)) dX13_combine_58 ⟨Nat.le_of_ble_eq_true rfl, Nat.le_of_ble_eq_true rfl⟩) hS (fun q _ h => (A_all hD hA hS.1) q h) (A_all hD hA hS.1) (fun r_24 u_24 t_24 H_24 L_24 ht_24 hvm_24 hw_24 hB_24 hz_24 hk_24 hS => ?_)
          replace hB_24 := (show va_P (dC, dI) vwCl [((b 0), .inr (15, [.int th, .ref (b 1), .ref (b 2), .int 0, .ref (b 3), .ref (b 4), .ref (b 5), .null, .ref (b 6), .int 0, .int 0, .int 0, .int 0, .int 0])), ((b 3), .inl (g 4, 8, .inr (.inr (.inr (.inr (fun i => if i < 8 then some (r1 i) else none)))))), ((r1 jx), .inl (g 0, 0, .inl (fun _ => 0))), ((b 1), .inl (g 0, 200, .inl (fun _ => 0))), ((b 2), .inl (g 0, 200, .inl (fun _ => 0))), ((b 5), .inl (g 0, 5, .inl stf))] t_24.heap from hB_24)
          rw [ht_24] at hB_24
          have hP := hB_24
          obtain rfl : r_24 = 1 := hw_24
          refine lv_if_eq (tgt := 68) hx hb dX13_combine_61 (by decide) (fun c_25 => absurd c_25 (by decide)) (fun c_25 => ?_)
          refine lv_iconst (v := 1) hx hb dX13_combine_64 (by decide) ?_
          refine lv_goto (tgt := 69) hx hb dX13_combine_65 (by decide) ?_
          have hPc := hP.sub (ws' := [((b 0), .inr (15, [.int th, .ref (b 1), .ref (b 2), .int 0, .ref (b 3), .ref (b 4), .ref (b 5), .null, .ref (b 6), .int 0, .int 0, .int 0, .int 0, .int 0]))]) [0] rfl
          have hDc := hD.sub (ws' := [((b 0), .inr (15, [.int th, .ref (b 1), .ref (b 2), .int 0, .ref (b 3), .ref (b 4), .ref (b 5), .null, .ref (b 6), .int 0, .int 0, .int 0, .int 0, .int 0]))]) [0] (by decide) rfl
          have hFc := va_free (wc := [((b 0), .inr (15, [.int th, .ref (b 1), .ref (b 2), .int 0, .ref (b 3), .ref (b 4), .ref (b 5), .null, .ref (b 6), .int 0, .int 0, .int 0, .int 0, .int 0]))]) hD hS hA [0] rfl
          refine va_calli (va_runV (As := [.int 1, .int (b2i (rngb k 0 2)), .int 1]) (rest := []) ⟨hx, hb, hml, hown, hts⟩ (c_X13_passes_x l dC dI g b r1 r2 th true (rngb k 0 2) true  H_24.size) (cwV 3 hts gX13_combine_X13_passes rfl rfl rfl (by decide +kernel) ⟨Nat.le_of_ble_eq_true rfl, Nat.le_of_ble_eq_true rfl⟩) ⟨PG_blind, va_recv hK hP (ci := 15) (q0 := 0) rfl rfl, PG_call hK hG hS hPc hDc hFc⟩ rfl rfl hl.1 rfl (lv_room (Nat.le_of_ble_eq_true rfl)) dX13_combine_69 ⟨Nat.le_of_ble_eq_true rfl, Nat.le_of_ble_eq_true rfl⟩) hS (fun q _ h => hFc q h) hFc (fun r_26 u_26 t_26 H_26 L_26 ht_26 hvm_26 hw_26 hB_26 hz_26 hk_26 hS => ?_)
          obtain ⟨hP1, hD1⟩ := hB_26
          rw [ht_26] at hP1
          obtain ⟨hP, hD⟩ := va_join (wr := [((b 3), .inl (g 4, 8, .inr (.inr (.inr (.inr (fun i => if i < 8 then some (r1 i) else none)))))), ((r1 jx), .inl (g 0, 0, .inl (fun _ => 0))), ((b 1), .inl (g 0, 200, .inl (fun _ => 0))), ((b 2), .inl (g 0, 200, .inl (fun _ => 0))), ((b 5), .inl (g 0, 5, .inl stf))]) (w1 := [((b 0), .inr (15, [.int (cd true (rngb k 0 2) true), .ref (b 1), .ref (b 2), .int 0, .ref (b 3), .ref (b 4), .ref (b 5), .null, .ref (b 6), .int 0, .int 0, .int 0, .int 0, .int 0]))]) hP hD [0] [1, 2, 3, 4, 5] rfl rfl (by decide) (by decide) hk_26 hFc hP1 hD1
          have hP : va_P (dC, dI) vwCl [((b 3), .inl (g 4, 8, .inr (.inr (.inr (.inr (fun i => if i < 8 then some (r1 i) else none)))))), ((r1 jx), .inl (g 0, 0, .inl (fun _ => 0))), ((b 1), .inl (g 0, 200, .inl (fun _ => 0))), ((b 2), .inl (g 0, 200, .inl (fun _ => 0))), ((b 5), .inl (g 0, 5, .inl stf)), ((b 0), .inr (15, [.int (cd true (rngb k 0 2) true), .ref (b 1), .ref (b 2), .int 0, .ref (b 3), .ref (b 4), .ref (b 5), .null, .ref (b 6), .int 0, .int 0, .int 0, .int 0, .int 0]))] H_26 := hP
          have hD : va_D A [((b 3), .inl (g 4, 8, .inr (.inr (.inr (.inr (fun i => if i < 8 then some (r1 i) else none)))))), ((r1 jx), .inl (g 0, 0, .inl (fun _ => 0))), ((b 1), .inl (g 0, 200, .inl (fun _ => 0))), ((b 2), .inl (g 0, 200, .inl (fun _ => 0))), ((b 5), .inl (g 0, 5, .inl stf)), ((b 0), .inr (15, [.int (cd true (rngb k 0 2) true), .ref (b 1), .ref (b 2), .int 0, .ref (b 3), .ref (b 4), .ref (b 5), .null, .ref (b 6), .int 0, .int 0, .int 0, .int 0, .int 0]))] := hD
          obtain rfl : r_26 = b2i (rngb k 0 2) := hw_26.trans (by simp)
          refine lv_if_ne (tgt := 77) hx hb dX13_combine_72 (by decide) (fun c_27 => ?_) (fun c_27 => ?_)
          · have hB_28 : (rngb k 0 2) = true := b2i_1 c_27
            refine lv_aload_n hx hb dX13_combine_77 rfl (lv_at hl 1 rfl) ?_
            refine va_get (D := (dC, dI)) (ci := 15) (v := .ref (b 3)) (C := RX13) (T := TX13) (N := 14) hx hb hts hiX13 hown hK hP 5 rfl rfl 4 (by decide) hf29 (fun _ h9 => h9) rfl dX13_combine_78 ?_
            refine lv_iload_n hx hb dX13_combine_81 rfl (lv_at hl 4 rfl) ?_
            refine lv_aload_n hx hb dX13_combine_82 rfl (lv_at hl 1 rfl) ?_
            refine lv_aload_n hx hb dX13_combine_83 rfl (lv_at hl 1 rfl) ?_
            refine va_get (D := (dC, dI)) (ci := 15) (v := .ref (b 3)) (C := RX13) (T := TX13) (N := 14) hx hb hts hiX13 hown hK hP 5 rfl rfl 4 (by decide) hf29 (fun _ h9 => h9) rfl dX13_combine_84 ?_
            refine lv_iload_n hx hb dX13_combine_87 rfl (lv_at hl 2 rfl) ?_
            refine va_aldA hx hb hK hP 0 rfl (vp_in_nI hjx (by decide)) dX13_combine_88 ?_
            refine W.eq (g2 := F0 m 89 ls [.ref (r1 jx), .ref (b 0), .int (nI jz), .ref (b 3)]) (by rw [nI_clamp (show jx < 2 ^ 31 by omega)]; simp only [if_pos hjx]; rfl) ?_
            refine lv_aload_n hx hb dX13_combine_89 rfl (lv_at hl 1 rfl) ?_
            refine va_get (D := (dC, dI)) (ci := 15) (v := .ref (b 3)) (C := RX13) (T := TX13) (N := 14) hx hb hts hiX13 hown hK hP 5 rfl rfl 4 (by decide) hf29 (fun _ h9 => h9) rfl dX13_combine_90 ?_
            refine lv_iload_n hx hb dX13_combine_93 rfl (lv_at hl 3 rfl) ?_
            refine va_aldA hx hb hK hP 0 rfl (vp_in_nI hjx (by decide)) dX13_combine_94 ?_
            refine W.eq (g2 := F0 m 95 ls [.ref (r1 jx), .ref (r1 jx), .ref (b 0), .int (nI jz), .ref (b 3)]) (by rw [nI_clamp (show jx < 2 ^ 31 by omega)]; simp only [if_pos hjx]; rfl) ?_
            refine lv_iload hx hb dX13_combine_95 (lv_at hl 5 rfl) ?_
            have hPc := hP.sub (ws' := [((b 0), .inr (15, [.int (cd true (rngb k 0 2) true), .ref (b 1), .ref (b 2), .int 0, .ref (b 3), .ref (b 4), .ref (b 5), .null, .ref (b 6), .int 0, .int 0, .int 0, .int 0, .int 0])), ((r1 jx), .inl (g 0, 0, .inl (fun _ => 0)))]) [5, 1] rfl
            have hDc := hD.sub (ws' := [((b 0), .inr (15, [.int (cd true (rngb k 0 2) true), .ref (b 1), .ref (b 2), .int 0, .ref (b 3), .ref (b 4), .ref (b 5), .null, .ref (b 6), .int 0, .int 0, .int 0, .int 0, .int 0])), ((r1 jx), .inl (g 0, 0, .inl (fun _ => 0)))]) [5, 1] (by decide) rfl
            have hFc := va_free (wc := [((b 0), .inr (15, [.int (cd true (rngb k 0 2) true), .ref (b 1), .ref (b 2), .int 0, .ref (b 3), .ref (b 4), .ref (b 5), .null, .ref (b 6), .int 0, .int 0, .int 0, .int 0, .int 0])), ((r1 jx), .inl (g 0, 0, .inl (fun _ => 0)))]) hD hS hA [5, 1] rfl
            refine va_callq (va_runV (As := [.ref (r1 jx), .ref (r1 jx), .int k]) (rest := [.int (nI jz), .ref (b 3)]) ⟨hx, hb, hml, hown, hts⟩ (c_X13_together_s l dC dI g (b 0) (r1 jx) k (fun _ => 0) (cd true (rngb k 0 2) true) (b 1) (b 2) 0 (b 3) (b 4) (b 5) none (b 6) 0 0 0 0 0  H_26.size) (cwV 3 hts gX13_combine_X13_together rfl rfl rfl (by decide +kernel) ⟨Nat.le_of_ble_eq_true rfl, Nat.le_of_ble_eq_true rfl⟩) ⟨PG_blind, va_recv hK hP (ci := 15) (q0 := 5) rfl rfl, PG_call hK hG hS hPc hDc hFc⟩ rfl rfl hl.1 rfl (lv_room (Nat.le_of_ble_eq_true rfl)) dX13_combine_97 ⟨Nat.le_of_ble_eq_true rfl, Nat.le_of_ble_eq_true rfl⟩) hS (fun q _ h => hFc q h) hFc (fun r_29 u_29 t_29 H_29 L_29 ht_29 hvm_29 hw_29 hB_29 hz_29 hk_29 hS => ?_)
            obtain ⟨hP1, hD1⟩ := hB_29
            rw [ht_29] at hP1
            obtain ⟨hP, hD⟩ := va_join (wr := [((b 3), .inl (g 4, 8, .inr (.inr (.inr (.inr (fun i => if i < 8 then some (r1 i) else none)))))), ((b 1), .inl (g 0, 200, .inl (fun _ => 0))), ((b 2), .inl (g 0, 200, .inl (fun _ => 0))), ((b 5), .inl (g 0, 5, .inl stf))]) (w1 := [((b 0), .inr (15, [.int (cd true (rngb k 0 2) true), .ref (b 1), .ref (b 2), .int 0, .ref (b 3), .ref (b 4), .ref (b 5), .null, .ref (b 6), .int 0, .int 0, .int 0, .int 0, .int 0])), ((r1 jx), .inl (g 0, 0, .inl (fun _ => 0))), ((u_29 0), .inl (g 0, 0, .inl (fun _ => 0)))]) hP hD [5, 1] [0, 2, 3, 4] rfl rfl (by decide) (by decide) hk_29 hFc hP1 hD1
            have hP : va_P (dC, dI) vwCl [((b 3), .inl (g 4, 8, .inr (.inr (.inr (.inr (fun i => if i < 8 then some (r1 i) else none)))))), ((b 1), .inl (g 0, 200, .inl (fun _ => 0))), ((b 2), .inl (g 0, 200, .inl (fun _ => 0))), ((b 5), .inl (g 0, 5, .inl stf)), ((b 0), .inr (15, [.int (cd true (rngb k 0 2) true), .ref (b 1), .ref (b 2), .int 0, .ref (b 3), .ref (b 4), .ref (b 5), .null, .ref (b 6), .int 0, .int 0, .int 0, .int 0, .int 0])), ((r1 jx), .inl (g 0, 0, .inl (fun _ => 0))), ((u_29 0), .inl (g 0, 0, .inl (fun _ => 0)))] H_29 := hP
            have hD : va_D A [((b 3), .inl (g 4, 8, .inr (.inr (.inr (.inr (fun i => if i < 8 then some (r1 i) else none)))))), ((b 1), .inl (g 0, 200, .inl (fun _ => 0))), ((b 2), .inl (g 0, 200, .inl (fun _ => 0))), ((b 5), .inl (g 0, 5, .inl stf)), ((b 0), .inr (15, [.int (cd true (rngb k 0 2) true), .ref (b 1), .ref (b 2), .int 0, .ref (b 3), .ref (b 4), .ref (b 5), .null, .ref (b 6), .int 0, .int 0, .int 0, .int 0, .int 0])), ((r1 jx), .inl (g 0, 0, .inl (fun _ => 0))), ((u_29 0), .inl (g 0, 0, .inl (fun _ => 0)))] := hD
            refine W.widen (k := 2) (n := 3) (by omega) (by omega) ?_
            obtain rfl : r_29 = some (u_29 0) := hw_29
            refine W.eq (g2 := F0 m 100 ls [.ref (u_29 0), .int (nI jz), .ref (b 3)]) rfl ?_
            refine va_astA hx hb hK (ao_3 hG) hP hD hS 0 6 rfl rfl (vp_in_nI hjz (by decide)) dX13_combine_100 (fun H_30 L_31 hP hD hS => ?_)
            have hP : va_P (dC, dI) vwCl [((b 3), .inl (g 4, 8, .inr (.inr (.inr (.inr (va_up (fun i => if i < 8 then some (r1 i) else none) (nI jz).toNatClampNeg (some (u_29 0)))))))), ((b 1), .inl (g 0, 200, .inl (fun _ => 0))), ((b 2), .inl (g 0, 200, .inl (fun _ => 0))), ((b 5), .inl (g 0, 5, .inl stf)), ((b 0), .inr (15, [.int (cd true (rngb k 0 2) true), .ref (b 1), .ref (b 2), .int 0, .ref (b 3), .ref (b 4), .ref (b 5), .null, .ref (b 6), .int 0, .int 0, .int 0, .int 0, .int 0])), ((r1 jx), .inl (g 0, 0, .inl (fun _ => 0))), ((u_29 0), .inl (g 0, 0, .inl (fun _ => 0)))] H_30 := hP
            have hD : va_D A [((b 3), .inl (g 4, 8, .inr (.inr (.inr (.inr (va_up (fun i => if i < 8 then some (r1 i) else none) (nI jz).toNatClampNeg (some (u_29 0)))))))), ((b 1), .inl (g 0, 200, .inl (fun _ => 0))), ((b 2), .inl (g 0, 200, .inl (fun _ => 0))), ((b 5), .inl (g 0, 5, .inl stf)), ((b 0), .inr (15, [.int (cd true (rngb k 0 2) true), .ref (b 1), .ref (b 2), .int 0, .ref (b 3), .ref (b 4), .ref (b 5), .null, .ref (b 6), .int 0, .int 0, .int 0, .int 0, .int 0])), ((r1 jx), .inl (g 0, 0, .inl (fun _ => 0))), ((u_29 0), .inl (g 0, 0, .inl (fun _ => 0)))] := hD
            refine lv_aload_n hx hb dX13_combine_101 rfl (lv_at hl 1 rfl) ?_
            refine va_get (D := (dC, dI)) (ci := 15) (v := .ref (b 3)) (C := RX13) (T := TX13) (N := 14) hx hb hts hiX13 hown hK hP 4 rfl rfl 4 (by decide) hf29 (fun _ h9 => h9) rfl dX13_combine_102 ?_
            refine lv_iload_n hx hb dX13_combine_105 rfl (lv_at hl 4 rfl) ?_
            refine va_aldA hx hb hK hP 0 rfl (vp_in_nI hjz (by decide)) dX13_combine_106 ?_
            refine W.eq (g2 := F0 m 107 ls [.ref (u_29 0)]) (by simp only [va_up, if_true]; rfl) ?_
            refine va_alen hx hb hK hP 6 0 rfl rfl (v := 0) rfl dX13_combine_107 ?_
            refine W.widen (k := 8) (n := 20) (by omega) (by omega) ?_
            have hcd : (cd true (rngb k 0 2) true) = (cd (TOKb (nI jx) && TOKb (nI jx) && TOKb (nI jz)) (rngb k 0 2) (TOKb (nI jx) && TOKb (nI jx) && TOKb (nI jz))) := by simp [cd, (TOK_j hjy rfl), (TOK_j hjz rfl), hB_28]
            have hP8 := hP.sub (ws' := [((b 0), .inr (15, [.int (cd true (rngb k 0 2) true), .ref (b 1), .ref (b 2), .int 0, .ref (b 3), .ref (b 4), .ref (b 5), .null, .ref (b 6), .int 0, .int 0, .int 0, .int 0, .int 0]))]) [4] rfl
            rw [hcd] at hP8
            exact W.iret (v := 0) hx hb hr (fun t ht hW => ⟨⟨0, (), rfl, (fun h => by first | rfl | (exact absurd (cd_0.mp h) (by simp [(TOK_j hjy rfl), (TOK_j hjz rfl), hB_28]))), ⟨[.ref (b 1), .ref (b 2), .int 0, .ref (b 3), .ref (b 4), .ref (b 5), .null, .ref (b 6), .int 0, .int 0, .int 0, .int 0, .int 0], P_at ht hP8⟩⟩, hS.F ht⟩) hS.2.2 dX13_combine_108
          · have hB_28 : (rngb k 0 2) = false := b2i_0 c_27
            refine lv_iconst (v := 0) hx hb dX13_combine_75 (by decide) ?_
            refine W.widen (k := 8) (n := 20) (by omega) (by omega) ?_
            have hcd : (cd true (rngb k 0 2) true) = (cd (TOKb (nI jx) && TOKb (nI jx) && TOKb (nI jz)) (rngb k 0 2) (TOKb (nI jx) && TOKb (nI jx) && TOKb (nI jz))) := by simp [cd, (TOK_j hjy rfl), (TOK_j hjz rfl), hB_28]
            have hP8 := hP.sub (ws' := [((b 0), .inr (15, [.int (cd true (rngb k 0 2) true), .ref (b 1), .ref (b 2), .int 0, .ref (b 3), .ref (b 4), .ref (b 5), .null, .ref (b 6), .int 0, .int 0, .int 0, .int 0, .int 0]))]) [5] rfl
            rw [hcd] at hP8
            exact W.iret (v := 0) hx hb hr (fun t ht hW => ⟨⟨0, (), rfl, (fun h => by first | rfl | (exact absurd (cd_0.mp h) (by simp [(TOK_j hjy rfl), (TOK_j hjz rfl), hB_28]))), ⟨[.ref (b 1), .ref (b 2), .int 0, .ref (b 3), .ref (b 4), .ref (b 5), .null, .ref (b 6), .int 0, .int 0, .int 0, .int 0, .int 0], P_at ht hP8⟩⟩, hS.F ht⟩) hS.2.2 dX13_combine_76
        · obtain ⟨hP, hD⟩ := mod_y b r1 r2 g th jx jy hjx hjy hxy hP hD
          have hP : va_P (dC, dI) vwCl [((b 0), .inr (15, [.int th, .ref (b 1), .ref (b 2), .int 0, .ref (b 3), .ref (b 4), .ref (b 5), .null, .ref (b 6), .int 0, .int 0, .int 0, .int 0, .int 0])), ((b 3), .inl (g 4, 8, .inr (.inr (.inr (.inr (fun i => if i < 8 then some (r1 i) else none)))))), ((r1 jx), .inl (g 0, 0, .inl (fun _ => 0))), ((r1 jy), .inl (g 0, 0, .inl (fun _ => 0))), ((b 1), .inl (g 0, 200, .inl (fun _ => 0))), ((b 2), .inl (g 0, 200, .inl (fun _ => 0))), ((b 5), .inl (g 0, 5, .inl stf))] H_22 := hP
          have hD : va_D A [((b 0), .inr (15, [.int th, .ref (b 1), .ref (b 2), .int 0, .ref (b 3), .ref (b 4), .ref (b 5), .null, .ref (b 6), .int 0, .int 0, .int 0, .int 0, .int 0])), ((b 3), .inl (g 4, 8, .inr (.inr (.inr (.inr (fun i => if i < 8 then some (r1 i) else none)))))), ((r1 jx), .inl (g 0, 0, .inl (fun _ => 0))), ((r1 jy), .inl (g 0, 0, .inl (fun _ => 0))), ((b 1), .inl (g 0, 200, .inl (fun _ => 0))), ((b 2), .inl (g 0, 200, .inl (fun _ => 0))), ((b 5), .inl (g 0, 5, .inl stf))] := hD
          refine lv_aload_n hx hb dX13_combine_43 rfl (lv_at hl 1 rfl) ?_
          refine lv_aload_n hx hb dX13_combine_44 rfl (lv_at hl 1 rfl) ?_
          refine va_get (D := (dC, dI)) (ci := 15) (v := .ref (b 3)) (C := RX13) (T := TX13) (N := 14) hx hb hts hiX13 hown hK hP 0 rfl rfl 4 (by decide) hf29 (fun _ h9 => h9) rfl dX13_combine_45 ?_
          refine lv_iload_n hx hb dX13_combine_48 rfl (lv_at hl 2 rfl) ?_
          refine va_aldA hx hb hK hP 1 rfl (vp_in_nI hjx (by decide)) dX13_combine_49 ?_
          refine W.eq (g2 := F0 m 50 ls [.ref (r1 jx), .ref (b 0), .int (b2i (rngb k 0 2)), .int 1, .ref (b 0)]) (by rw [nI_clamp (show jx < 2 ^ 31 by omega)]; simp only [if_pos hjx]; rfl) ?_
          refine lv_aload_n hx hb dX13_combine_50 rfl (lv_at hl 1 rfl) ?_
          refine va_get (D := (dC, dI)) (ci := 15) (v := .ref (b 3)) (C := RX13) (T := TX13) (N := 14) hx hb hts hiX13 hown hK hP 0 rfl rfl 4 (by decide) hf29 (fun _ h9 => h9) rfl dX13_combine_51 ?_
          refine lv_iload_n hx hb dX13_combine_54 rfl (lv_at hl 3 rfl) ?_
          refine va_aldA hx hb hK hP 1 rfl (vp_in_nI hjy (by decide)) dX13_combine_55 ?_
          refine W.eq (g2 := F0 m 56 ls [.ref (r1 jy), .ref (r1 jx), .ref (b 0), .int (b2i (rngb k 0 2)), .int 1, .ref (b 0)]) (by rw [nI_clamp (show jy < 2 ^ 31 by omega)]; simp only [if_pos hjy]; rfl) ?_
          refine lv_iload hx hb dX13_combine_56 (lv_at hl 5 rfl) ?_
          refine va_calli (va_runV (As := [.ref (r1 jx), .ref (r1 jy), .int k]) (rest := [.int (b2i (rngb k 0 2)), .int 1, .ref (b 0)]) ⟨hx, hb, hml, hown, hts⟩ (c_X13_canCombine l dC dI g [((b 0), .inr (15, [.int th, .ref (b 1), .ref (b 2), .int 0, .ref (b 3), .ref (b 4), .ref (b 5), .null, .ref (b 6), .int 0, .int 0, .int 0, .int 0, .int 0])), ((b 3), .inl (g 4, 8, .inr (.inr (.inr (.inr (fun i => if i < 8 then some (r1 i) else none)))))), ((r1 jx), .inl (g 0, 0, .inl (fun _ => 0))), ((r1 jy), .inl (g 0, 0, .inl (fun _ => 0))), ((b 1), .inl (g 0, 200, .inl (fun _ => 0))), ((b 2), .inl (g 0, 200, .inl (fun _ => 0))), ((b 5), .inl (g 0, 5, .inl stf))] (b 0) (r1 jx) (r1 jy) k (fun _ => 0) (fun _ => 0) th (b 1) (b 2) 0 (b 3) (b 4) (b 5) none (b 6) 0 0 0 0 0 0 rfl 2 rfl 3 rfl  H_22.size) (cwV 3 hts gX13_combine_X13_canCombine rfl rfl rfl (by decide +kernel) ⟨Nat.le_of_ble_eq_true rfl, Nat.le_of_ble_eq_true rfl⟩) ⟨PG_blind, va_recv hK hP (ci := 15) (q0 := 0) rfl rfl, PG_call hK hG hS hP hD (A_all hD hA hS.1)⟩ rfl rfl hl.1 rfl (lv_room (Nat.le_of_ble_eq_true rfl)) dX13_combine_58 ⟨Nat.le_of_ble_eq_true rfl, Nat.le_of_ble_eq_true rfl⟩) hS (fun q _ h => (A_all hD hA hS.1) q h) (A_all hD hA hS.1) (fun r_32 u_32 t_32 H_32 L_32 ht_32 hvm_32 hw_32 hB_32 hz_32 hk_32 hS => ?_)
          replace hB_32 := (show va_P (dC, dI) vwCl [((b 0), .inr (15, [.int th, .ref (b 1), .ref (b 2), .int 0, .ref (b 3), .ref (b 4), .ref (b 5), .null, .ref (b 6), .int 0, .int 0, .int 0, .int 0, .int 0])), ((b 3), .inl (g 4, 8, .inr (.inr (.inr (.inr (fun i => if i < 8 then some (r1 i) else none)))))), ((r1 jx), .inl (g 0, 0, .inl (fun _ => 0))), ((r1 jy), .inl (g 0, 0, .inl (fun _ => 0))), ((b 1), .inl (g 0, 200, .inl (fun _ => 0))), ((b 2), .inl (g 0, 200, .inl (fun _ => 0))), ((b 5), .inl (g 0, 5, .inl stf))] t_32.heap from hB_32)
          rw [ht_32] at hB_32
          have hP := hB_32
          obtain rfl : r_32 = 1 := hw_32
          refine lv_if_eq (tgt := 68) hx hb dX13_combine_61 (by decide) (fun c_33 => absurd c_33 (by decide)) (fun c_33 => ?_)
          refine lv_iconst (v := 1) hx hb dX13_combine_64 (by decide) ?_
          refine lv_goto (tgt := 69) hx hb dX13_combine_65 (by decide) ?_
          have hPc := hP.sub (ws' := [((b 0), .inr (15, [.int th, .ref (b 1), .ref (b 2), .int 0, .ref (b 3), .ref (b 4), .ref (b 5), .null, .ref (b 6), .int 0, .int 0, .int 0, .int 0, .int 0]))]) [0] rfl
          have hDc := hD.sub (ws' := [((b 0), .inr (15, [.int th, .ref (b 1), .ref (b 2), .int 0, .ref (b 3), .ref (b 4), .ref (b 5), .null, .ref (b 6), .int 0, .int 0, .int 0, .int 0, .int 0]))]) [0] (by decide) rfl
          have hFc := va_free (wc := [((b 0), .inr (15, [.int th, .ref (b 1), .ref (b 2), .int 0, .ref (b 3), .ref (b 4), .ref (b 5), .null, .ref (b 6), .int 0, .int 0, .int 0, .int 0, .int 0]))]) hD hS hA [0] rfl
          refine va_calli (va_runV (As := [.int 1, .int (b2i (rngb k 0 2)), .int 1]) (rest := []) ⟨hx, hb, hml, hown, hts⟩ (c_X13_passes_x l dC dI g b r1 r2 th true (rngb k 0 2) true  H_32.size) (cwV 3 hts gX13_combine_X13_passes rfl rfl rfl (by decide +kernel) ⟨Nat.le_of_ble_eq_true rfl, Nat.le_of_ble_eq_true rfl⟩) ⟨PG_blind, va_recv hK hP (ci := 15) (q0 := 0) rfl rfl, PG_call hK hG hS hPc hDc hFc⟩ rfl rfl hl.1 rfl (lv_room (Nat.le_of_ble_eq_true rfl)) dX13_combine_69 ⟨Nat.le_of_ble_eq_true rfl, Nat.le_of_ble_eq_true rfl⟩) hS (fun q _ h => hFc q h) hFc (fun r_34 u_34 t_34 H_34 L_34 ht_34 hvm_34 hw_34 hB_34 hz_34 hk_34 hS => ?_)
          obtain ⟨hP1, hD1⟩ := hB_34
          rw [ht_34] at hP1
          obtain ⟨hP, hD⟩ := va_join (wr := [((b 3), .inl (g 4, 8, .inr (.inr (.inr (.inr (fun i => if i < 8 then some (r1 i) else none)))))), ((r1 jx), .inl (g 0, 0, .inl (fun _ => 0))), ((r1 jy), .inl (g 0, 0, .inl (fun _ => 0))), ((b 1), .inl (g 0, 200, .inl (fun _ => 0))), ((b 2), .inl (g 0, 200, .inl (fun _ => 0))), ((b 5), .inl (g 0, 5, .inl stf))]) (w1 := [((b 0), .inr (15, [.int (cd true (rngb k 0 2) true), .ref (b 1), .ref (b 2), .int 0, .ref (b 3), .ref (b 4), .ref (b 5), .null, .ref (b 6), .int 0, .int 0, .int 0, .int 0, .int 0]))]) hP hD [0] [1, 2, 3, 4, 5, 6] rfl rfl (by decide) (by decide) hk_34 hFc hP1 hD1
          have hP : va_P (dC, dI) vwCl [((b 3), .inl (g 4, 8, .inr (.inr (.inr (.inr (fun i => if i < 8 then some (r1 i) else none)))))), ((r1 jx), .inl (g 0, 0, .inl (fun _ => 0))), ((r1 jy), .inl (g 0, 0, .inl (fun _ => 0))), ((b 1), .inl (g 0, 200, .inl (fun _ => 0))), ((b 2), .inl (g 0, 200, .inl (fun _ => 0))), ((b 5), .inl (g 0, 5, .inl stf)), ((b 0), .inr (15, [.int (cd true (rngb k 0 2) true), .ref (b 1), .ref (b 2), .int 0, .ref (b 3), .ref (b 4), .ref (b 5), .null, .ref (b 6), .int 0, .int 0, .int 0, .int 0, .int 0]))] H_34 := hP
          have hD : va_D A [((b 3), .inl (g 4, 8, .inr (.inr (.inr (.inr (fun i => if i < 8 then some (r1 i) else none)))))), ((r1 jx), .inl (g 0, 0, .inl (fun _ => 0))), ((r1 jy), .inl (g 0, 0, .inl (fun _ => 0))), ((b 1), .inl (g 0, 200, .inl (fun _ => 0))), ((b 2), .inl (g 0, 200, .inl (fun _ => 0))), ((b 5), .inl (g 0, 5, .inl stf)), ((b 0), .inr (15, [.int (cd true (rngb k 0 2) true), .ref (b 1), .ref (b 2), .int 0, .ref (b 3), .ref (b 4), .ref (b 5), .null, .ref (b 6), .int 0, .int 0, .int 0, .int 0, .int 0]))] := hD
          obtain rfl : r_34 = b2i (rngb k 0 2) := hw_34.trans (by simp)
          refine lv_if_ne (tgt := 77) hx hb dX13_combine_72 (by decide) (fun c_35 => ?_) (fun c_35 => ?_)
          · have hB_36 : (rngb k 0 2) = true := b2i_1 c_35
            refine lv_aload_n hx hb dX13_combine_77 rfl (lv_at hl 1 rfl) ?_
            refine va_get (D := (dC, dI)) (ci := 15) (v := .ref (b 3)) (C := RX13) (T := TX13) (N := 14) hx hb hts hiX13 hown hK hP 6 rfl rfl 4 (by decide) hf29 (fun _ h9 => h9) rfl dX13_combine_78 ?_
            refine lv_iload_n hx hb dX13_combine_81 rfl (lv_at hl 4 rfl) ?_
            refine lv_aload_n hx hb dX13_combine_82 rfl (lv_at hl 1 rfl) ?_
            refine lv_aload_n hx hb dX13_combine_83 rfl (lv_at hl 1 rfl) ?_
            refine va_get (D := (dC, dI)) (ci := 15) (v := .ref (b 3)) (C := RX13) (T := TX13) (N := 14) hx hb hts hiX13 hown hK hP 6 rfl rfl 4 (by decide) hf29 (fun _ h9 => h9) rfl dX13_combine_84 ?_
            refine lv_iload_n hx hb dX13_combine_87 rfl (lv_at hl 2 rfl) ?_
            refine va_aldA hx hb hK hP 0 rfl (vp_in_nI hjx (by decide)) dX13_combine_88 ?_
            refine W.eq (g2 := F0 m 89 ls [.ref (r1 jx), .ref (b 0), .int (nI jz), .ref (b 3)]) (by rw [nI_clamp (show jx < 2 ^ 31 by omega)]; simp only [if_pos hjx]; rfl) ?_
            refine lv_aload_n hx hb dX13_combine_89 rfl (lv_at hl 1 rfl) ?_
            refine va_get (D := (dC, dI)) (ci := 15) (v := .ref (b 3)) (C := RX13) (T := TX13) (N := 14) hx hb hts hiX13 hown hK hP 6 rfl rfl 4 (by decide) hf29 (fun _ h9 => h9) rfl dX13_combine_90 ?_
            refine lv_iload_n hx hb dX13_combine_93 rfl (lv_at hl 3 rfl) ?_
            refine va_aldA hx hb hK hP 0 rfl (vp_in_nI hjy (by decide)) dX13_combine_94 ?_
            refine W.eq (g2 := F0 m 95 ls [.ref (r1 jy), .ref (r1 jx), .ref (b 0), .int (nI jz), .ref (b 3)]) (by rw [nI_clamp (show jy < 2 ^ 31 by omega)]; simp only [if_pos hjy]; rfl) ?_
            refine lv_iload hx hb dX13_combine_95 (lv_at hl 5 rfl) ?_
            have hPc := hP.sub (ws' := [((b 0), .inr (15, [.int (cd true (rngb k 0 2) true), .ref (b 1), .ref (b 2), .int 0, .ref (b 3), .ref (b 4), .ref (b 5), .null, .ref (b 6), .int 0, .int 0, .int 0, .int 0, .int 0])), ((r1 jx), .inl (g 0, 0, .inl (fun _ => 0))), ((r1 jy), .inl (g 0, 0, .inl (fun _ => 0)))]) [6, 1, 2] rfl
            have hDc := hD.sub (ws' := [((b 0), .inr (15, [.int (cd true (rngb k 0 2) true), .ref (b 1), .ref (b 2), .int 0, .ref (b 3), .ref (b 4), .ref (b 5), .null, .ref (b 6), .int 0, .int 0, .int 0, .int 0, .int 0])), ((r1 jx), .inl (g 0, 0, .inl (fun _ => 0))), ((r1 jy), .inl (g 0, 0, .inl (fun _ => 0)))]) [6, 1, 2] (by decide) rfl
            have hFc := va_free (wc := [((b 0), .inr (15, [.int (cd true (rngb k 0 2) true), .ref (b 1), .ref (b 2), .int 0, .ref (b 3), .ref (b 4), .ref (b 5), .null, .ref (b 6), .int 0, .int 0, .int 0, .int 0, .int 0])), ((r1 jx), .inl (g 0, 0, .inl (fun _ => 0))), ((r1 jy), .inl (g 0, 0, .inl (fun _ => 0)))]) hD hS hA [6, 1, 2] rfl
            refine va_callq (va_runV (As := [.ref (r1 jx), .ref (r1 jy), .int k]) (rest := [.int (nI jz), .ref (b 3)]) ⟨hx, hb, hml, hown, hts⟩ (c_X13_together l dC dI g (b 0) (r1 jx) (r1 jy) k (fun _ => 0) (fun _ => 0) (cd true (rngb k 0 2) true) (b 1) (b 2) 0 (b 3) (b 4) (b 5) none (b 6) 0 0 0 0 0  H_34.size) (cwV 3 hts gX13_combine_X13_together rfl rfl rfl (by decide +kernel) ⟨Nat.le_of_ble_eq_true rfl, Nat.le_of_ble_eq_true rfl⟩) ⟨PG_blind, va_recv hK hP (ci := 15) (q0 := 6) rfl rfl, PG_call hK hG hS hPc hDc hFc⟩ rfl rfl hl.1 rfl (lv_room (Nat.le_of_ble_eq_true rfl)) dX13_combine_97 ⟨Nat.le_of_ble_eq_true rfl, Nat.le_of_ble_eq_true rfl⟩) hS (fun q _ h => hFc q h) hFc (fun r_37 u_37 t_37 H_37 L_37 ht_37 hvm_37 hw_37 hB_37 hz_37 hk_37 hS => ?_)
            obtain ⟨hP1, hD1⟩ := hB_37
            rw [ht_37] at hP1
            obtain ⟨hP, hD⟩ := va_join (wr := [((b 3), .inl (g 4, 8, .inr (.inr (.inr (.inr (fun i => if i < 8 then some (r1 i) else none)))))), ((b 1), .inl (g 0, 200, .inl (fun _ => 0))), ((b 2), .inl (g 0, 200, .inl (fun _ => 0))), ((b 5), .inl (g 0, 5, .inl stf))]) (w1 := [((b 0), .inr (15, [.int (cd true (rngb k 0 2) true), .ref (b 1), .ref (b 2), .int 0, .ref (b 3), .ref (b 4), .ref (b 5), .null, .ref (b 6), .int 0, .int 0, .int 0, .int 0, .int 0])), ((r1 jx), .inl (g 0, 0, .inl (fun _ => 0))), ((r1 jy), .inl (g 0, 0, .inl (fun _ => 0))), ((u_37 0), .inl (g 0, 0, .inl (fun _ => 0)))]) hP hD [6, 1, 2] [0, 3, 4, 5] rfl rfl (by decide) (by decide) hk_37 hFc hP1 hD1
            have hP : va_P (dC, dI) vwCl [((b 3), .inl (g 4, 8, .inr (.inr (.inr (.inr (fun i => if i < 8 then some (r1 i) else none)))))), ((b 1), .inl (g 0, 200, .inl (fun _ => 0))), ((b 2), .inl (g 0, 200, .inl (fun _ => 0))), ((b 5), .inl (g 0, 5, .inl stf)), ((b 0), .inr (15, [.int (cd true (rngb k 0 2) true), .ref (b 1), .ref (b 2), .int 0, .ref (b 3), .ref (b 4), .ref (b 5), .null, .ref (b 6), .int 0, .int 0, .int 0, .int 0, .int 0])), ((r1 jx), .inl (g 0, 0, .inl (fun _ => 0))), ((r1 jy), .inl (g 0, 0, .inl (fun _ => 0))), ((u_37 0), .inl (g 0, 0, .inl (fun _ => 0)))] H_37 := hP
            have hD : va_D A [((b 3), .inl (g 4, 8, .inr (.inr (.inr (.inr (fun i => if i < 8 then some (r1 i) else none)))))), ((b 1), .inl (g 0, 200, .inl (fun _ => 0))), ((b 2), .inl (g 0, 200, .inl (fun _ => 0))), ((b 5), .inl (g 0, 5, .inl stf)), ((b 0), .inr (15, [.int (cd true (rngb k 0 2) true), .ref (b 1), .ref (b 2), .int 0, .ref (b 3), .ref (b 4), .ref (b 5), .null, .ref (b 6), .int 0, .int 0, .int 0, .int 0, .int 0])), ((r1 jx), .inl (g 0, 0, .inl (fun _ => 0))), ((r1 jy), .inl (g 0, 0, .inl (fun _ => 0))), ((u_37 0), .inl (g 0, 0, .inl (fun _ => 0)))] := hD
            refine W.widen (k := 2) (n := 3) (by omega) (by omega) ?_
            obtain rfl : r_37 = some (u_37 0) := hw_37
            refine W.eq (g2 := F0 m 100 ls [.ref (u_37 0), .int (nI jz), .ref (b 3)]) rfl ?_
            refine va_astA hx hb hK (ao_3 hG) hP hD hS 0 7 rfl rfl (vp_in_nI hjz (by decide)) dX13_combine_100 (fun H_38 L_39 hP hD hS => ?_)
            have hP : va_P (dC, dI) vwCl [((b 3), .inl (g 4, 8, .inr (.inr (.inr (.inr (va_up (fun i => if i < 8 then some (r1 i) else none) (nI jz).toNatClampNeg (some (u_37 0)))))))), ((b 1), .inl (g 0, 200, .inl (fun _ => 0))), ((b 2), .inl (g 0, 200, .inl (fun _ => 0))), ((b 5), .inl (g 0, 5, .inl stf)), ((b 0), .inr (15, [.int (cd true (rngb k 0 2) true), .ref (b 1), .ref (b 2), .int 0, .ref (b 3), .ref (b 4), .ref (b 5), .null, .ref (b 6), .int 0, .int 0, .int 0, .int 0, .int 0])), ((r1 jx), .inl (g 0, 0, .inl (fun _ => 0))), ((r1 jy), .inl (g 0, 0, .inl (fun _ => 0))), ((u_37 0), .inl (g 0, 0, .inl (fun _ => 0)))] H_38 := hP
            have hD : va_D A [((b 3), .inl (g 4, 8, .inr (.inr (.inr (.inr (va_up (fun i => if i < 8 then some (r1 i) else none) (nI jz).toNatClampNeg (some (u_37 0)))))))), ((b 1), .inl (g 0, 200, .inl (fun _ => 0))), ((b 2), .inl (g 0, 200, .inl (fun _ => 0))), ((b 5), .inl (g 0, 5, .inl stf)), ((b 0), .inr (15, [.int (cd true (rngb k 0 2) true), .ref (b 1), .ref (b 2), .int 0, .ref (b 3), .ref (b 4), .ref (b 5), .null, .ref (b 6), .int 0, .int 0, .int 0, .int 0, .int 0])), ((r1 jx), .inl (g 0, 0, .inl (fun _ => 0))), ((r1 jy), .inl (g 0, 0, .inl (fun _ => 0))), ((u_37 0), .inl (g 0, 0, .inl (fun _ => 0)))] := hD
            refine lv_aload_n hx hb dX13_combine_101 rfl (lv_at hl 1 rfl) ?_
            refine va_get (D := (dC, dI)) (ci := 15) (v := .ref (b 3)) (C := RX13) (T := TX13) (N := 14) hx hb hts hiX13 hown hK hP 4 rfl rfl 4 (by decide) hf29 (fun _ h9 => h9) rfl dX13_combine_102 ?_
            refine lv_iload_n hx hb dX13_combine_105 rfl (lv_at hl 4 rfl) ?_
            refine va_aldA hx hb hK hP 0 rfl (vp_in_nI hjz (by decide)) dX13_combine_106 ?_
            refine W.eq (g2 := F0 m 107 ls [.ref (u_37 0)]) (by simp only [va_up, if_true]; rfl) ?_
            refine va_alen hx hb hK hP 7 0 rfl rfl (v := 0) rfl dX13_combine_107 ?_
            refine W.widen (k := 8) (n := 20) (by omega) (by omega) ?_
            have hcd : (cd true (rngb k 0 2) true) = (cd (TOKb (nI jx) && TOKb (nI jy) && TOKb (nI jz)) (rngb k 0 2) (TOKb (nI jx) && TOKb (nI jy) && TOKb (nI jz))) := by simp [cd, (TOK_j hjx rfl), (TOK_j hjy rfl), (TOK_j hjz rfl), hB_36]
            have hP8 := hP.sub (ws' := [((b 0), .inr (15, [.int (cd true (rngb k 0 2) true), .ref (b 1), .ref (b 2), .int 0, .ref (b 3), .ref (b 4), .ref (b 5), .null, .ref (b 6), .int 0, .int 0, .int 0, .int 0, .int 0]))]) [4] rfl
            rw [hcd] at hP8
            exact W.iret (v := 0) hx hb hr (fun t ht hW => ⟨⟨0, (), rfl, (fun h => by first | rfl | (exact absurd (cd_0.mp h) (by simp [(TOK_j hjx rfl), (TOK_j hjy rfl), (TOK_j hjz rfl), hB_36]))), ⟨[.ref (b 1), .ref (b 2), .int 0, .ref (b 3), .ref (b 4), .ref (b 5), .null, .ref (b 6), .int 0, .int 0, .int 0, .int 0, .int 0], P_at ht hP8⟩⟩, hS.F ht⟩) hS.2.2 dX13_combine_108
          · have hB_36 : (rngb k 0 2) = false := b2i_0 c_35
            refine lv_iconst (v := 0) hx hb dX13_combine_75 (by decide) ?_
            refine W.widen (k := 8) (n := 20) (by omega) (by omega) ?_
            have hcd : (cd true (rngb k 0 2) true) = (cd (TOKb (nI jx) && TOKb (nI jy) && TOKb (nI jz)) (rngb k 0 2) (TOKb (nI jx) && TOKb (nI jy) && TOKb (nI jz))) := by simp [cd, (TOK_j hjx rfl), (TOK_j hjy rfl), (TOK_j hjz rfl), hB_36]
            have hP8 := hP.sub (ws' := [((b 0), .inr (15, [.int (cd true (rngb k 0 2) true), .ref (b 1), .ref (b 2), .int 0, .ref (b 3), .ref (b 4), .ref (b 5), .null, .ref (b 6), .int 0, .int 0, .int 0, .int 0, .int 0]))]) [6] rfl
            rw [hcd] at hP8
            exact W.iret (v := 0) hx hb hr (fun t ht hW => ⟨⟨0, (), rfl, (fun h => by first | rfl | (exact absurd (cd_0.mp h) (by simp [(TOK_j hjx rfl), (TOK_j hjy rfl), (TOK_j hjz rfl), hB_36]))), ⟨[.ref (b 1), .ref (b 2), .int 0, .ref (b 3), .ref (b 4), .ref (b 5), .null, .ref (b 6), .int 0, .int 0, .int 0, .int 0, .int 0], P_at ht hP8⟩⟩, hS.F ht⟩) hS.2.2 dX13_combine_76
