theorem dX13_scatter_0 : decode cX13_scatter 0 = .ok (.iload_n 1, 1) := by decide +kernel
set_option maxRecDepth 20000 in
theorem ggX13_scatter_X13_isTape : GoodIn wsX13_scatter wsX13_isTape := goodIn_r _ [9, 10, 11, 8, 12] (by decide +kernel) (by decide +kernel)
set_option maxRecDepth 20000 in
theorem gX13_scatter_X13_isTape : GoodIn wsX13_scatter (va_wsS RX13 44 yX13_isTape wsX13_isTape) := goodIn_app (goodIn_of _ (by decide +kernel)) ggX13_scatter_X13_isTape
theorem dX13_scatter_1 : decode cX13_scatter 1 = .ok (.invokestatic 44, 3) := by decide +kernel
theorem dX13_scatter_4 : decode cX13_scatter 4 = .ok (.istore 5, 2) := by decide +kernel
theorem dX13_scatter_6 : decode cX13_scatter 6 = .ok (.aload_n 0, 1) := by decide +kernel
theorem dX13_scatter_7 : decode cX13_scatter 7 = .ok (.iload 5, 2) := by decide +kernel
theorem dX13_scatter_9 : decode cX13_scatter 9 = .ok (.iload_n 2, 1) := by decide +kernel
theorem dX13_scatter_10 : decode cX13_scatter 10 = .ok (.iconst 0, 1) := by decide +kernel
theorem dX13_scatter_11 : decode cX13_scatter 11 = .ok (.bipush 50, 2) := by decide +kernel
set_option maxRecDepth 20000 in
theorem ggX13_scatter_X13_in : GoodIn wsX13_scatter wsX13_in := goodIn_r _ [12] (by decide +kernel) (by decide +kernel)
set_option maxRecDepth 20000 in
theorem gX13_scatter_X13_in : GoodIn wsX13_scatter (va_wsS RX13 7 yX13_in wsX13_in) := goodIn_app (goodIn_of _ (by decide +kernel)) ggX13_scatter_X13_in
theorem dX13_scatter_13 : decode cX13_scatter 13 = .ok (.invokestatic 7, 3) := by decide +kernel
theorem dX13_scatter_16 : decode cX13_scatter 16 = .ok (.ifCond .eq 23, 3) := by decide +kernel
theorem dX13_scatter_39 : decode cX13_scatter 39 = .ok (.iconst 0, 1) := by decide +kernel
theorem dX13_scatter_40 : decode cX13_scatter 40 = .ok (.iload 5, 2) := by decide +kernel
theorem dX13_scatter_42 : decode cX13_scatter 42 = .ok (.ifCond .eq 16, 3) := by decide +kernel
theorem dX13_scatter_58 : decode cX13_scatter 58 = .ok (.iconst 0, 1) := by decide +kernel
set_option maxRecDepth 20000 in
theorem ggX13_scatter_X13_passes : GoodIn wsX13_scatter wsX13_passes := goodIn_r _ [21, 22, 30, 31, 32, 33, 34, 35, 36, 37, 38, 39, 40, 41, 42, 43] (by decide +kernel) (by decide +kernel)
set_option maxRecDepth 20000 in
theorem gX13_scatter_X13_passes : GoodIn wsX13_scatter (wsV RX13 55 RX13 yX13_passes wsX13_passes) := goodIn_app (goodIn_of _ (by decide +kernel)) ggX13_scatter_X13_passes
theorem dX13_scatter_59 : decode cX13_scatter 59 = .ok (.invokevirtual 55, 3) := by decide +kernel
theorem dX13_scatter_62 : decode cX13_scatter 62 = .ok (.ifCond .ne 5, 3) := by decide +kernel
theorem dX13_scatter_65 : decode cX13_scatter 65 = .ok (.iconst 0, 1) := by decide +kernel
theorem dX13_scatter_66 : decode cX13_scatter 66 = .ok (.ireturn, 1) := by decide +kernel
theorem dX13_scatter_45 : decode cX13_scatter 45 = .ok (.aload_n 0, 1) := by decide +kernel
theorem dX13_scatter_46 : decode cX13_scatter 46 = .ok (.iload_n 1, 1) := by decide +kernel
theorem dX13_scatter_47 : decode cX13_scatter 47 = .ok (.iload_n 2, 1) := by decide +kernel
set_option maxRecDepth 20000 in
theorem ggX13_scatter_X13_haveRoom : GoodIn wsX13_scatter wsX13_haveRoom := goodIn_r _ [16, 17, 5, 30, 31, 32, 33, 34, 35, 36, 37, 38, 39, 40, 41, 42, 43] (by decide +kernel) (by decide +kernel)
set_option maxRecDepth 20000 in
theorem gX13_scatter_X13_haveRoom : GoodIn wsX13_scatter (wsV RX13 51 RX13 yX13_haveRoom wsX13_haveRoom) := goodIn_app (goodIn_of _ (by decide +kernel)) ggX13_scatter_X13_haveRoom
theorem dX13_scatter_48 : decode cX13_scatter 48 = .ok (.invokevirtual 51, 3) := by decide +kernel
theorem dX13_scatter_51 : decode cX13_scatter 51 = .ok (.ifCond .eq 7, 3) := by decide +kernel
theorem dX13_scatter_54 : decode cX13_scatter 54 = .ok (.iconst 1, 1) := by decide +kernel
theorem dX13_scatter_55 : decode cX13_scatter 55 = .ok (.goto 4, 3) := by decide +kernel
theorem dX13_scatter_19 : decode cX13_scatter 19 = .ok (.iload_n 3, 1) := by decide +kernel
theorem dX13_scatter_20 : decode cX13_scatter 20 = .ok (.iconst 1, 1) := by decide +kernel
theorem dX13_scatter_21 : decode cX13_scatter 21 = .ok (.sipush 999, 3) := by decide +kernel
theorem dX13_scatter_24 : decode cX13_scatter 24 = .ok (.invokestatic 7, 3) := by decide +kernel
theorem dX13_scatter_27 : decode cX13_scatter 27 = .ok (.ifCond .eq 12, 3) := by decide +kernel
theorem dX13_scatter_30 : decode cX13_scatter 30 = .ok (.iload 4, 2) := by decide +kernel
theorem dX13_scatter_32 : decode cX13_scatter 32 = .ok (.ifCond .lt 7, 3) := by decide +kernel
theorem dX13_scatter_35 : decode cX13_scatter 35 = .ok (.iconst 1, 1) := by decide +kernel
theorem dX13_scatter_36 : decode cX13_scatter 36 = .ok (.goto 4, 3) := by decide +kernel
theorem dX13_scatter_67 : decode cX13_scatter 67 = .ok (.iload 4, 2) := by decide +kernel
theorem dX13_scatter_69 : decode cX13_scatter 69 = .ok (.i2l, 1) := by decide +kernel
theorem dX13_scatter_70 : decode cX13_scatter 70 = .ok (.lstore 6, 2) := by decide +kernel
theorem dX13_scatter_72 : decode cX13_scatter 72 = .ok (.iconst 0, 1) := by decide +kernel
theorem dX13_scatter_73 : decode cX13_scatter 73 = .ok (.istore 8, 2) := by decide +kernel
theorem dX13_scatter_75 : decode cX13_scatter 75 = .ok (.iload 8, 2) := by decide +kernel
theorem dX13_scatter_77 : decode cX13_scatter 77 = .ok (.iload_n 2, 1) := by decide +kernel
theorem dX13_scatter_78 : decode cX13_scatter 78 = .ok (.if_icmp .ge 41, 3) := by decide +kernel
theorem dX13_scatter_119 : decode cX13_scatter 119 = .ok (.aload_n 0, 1) := by decide +kernel
theorem dX13_scatter_120 : decode cX13_scatter 120 = .ok (.getfield 29, 3) := by decide +kernel
theorem dX13_scatter_123 : decode cX13_scatter 123 = .ok (.iload_n 1, 1) := by decide +kernel
theorem dX13_scatter_124 : decode cX13_scatter 124 = .ok (.aaload, 1) := by decide +kernel
theorem dX13_scatter_125 : decode cX13_scatter 125 = .ok (.arraylength, 1) := by decide +kernel
theorem dX13_scatter_126 : decode cX13_scatter 126 = .ok (.ireturn, 1) := by decide +kernel
theorem dX13_scatter_81 : decode cX13_scatter 81 = .ok (.lload 6, 2) := by decide +kernel
theorem dX13_scatter_83 : decode cX13_scatter 83 = .ok (.ldc2_w 63, 3) := by decide +kernel
theorem dX13_scatter_86 : decode cX13_scatter 86 = .ok (.lmul, 1) := by decide +kernel
theorem dX13_scatter_87 : decode cX13_scatter 87 = .ok (.ldc2_w 65, 3) := by decide +kernel
theorem dX13_scatter_90 : decode cX13_scatter 90 = .ok (.ladd, 1) := by decide +kernel
theorem dX13_scatter_91 : decode cX13_scatter 91 = .ok (.ldc2_w 67, 3) := by decide +kernel
theorem dX13_scatter_94 : decode cX13_scatter 94 = .ok (.lrem, 1) := by decide +kernel
theorem dX13_scatter_95 : decode cX13_scatter 95 = .ok (.lstore 6, 2) := by decide +kernel
theorem dX13_scatter_97 : decode cX13_scatter 97 = .ok (.aload_n 0, 1) := by decide +kernel
theorem dX13_scatter_98 : decode cX13_scatter 98 = .ok (.iload_n 1, 1) := by decide +kernel
theorem dX13_scatter_99 : decode cX13_scatter 99 = .ok (.lload 6, 2) := by decide +kernel
theorem dX13_scatter_101 : decode cX13_scatter 101 = .ok (.ldc2_w 69, 3) := by decide +kernel
theorem dX13_scatter_104 : decode cX13_scatter 104 = .ok (.ldiv, 1) := by decide +kernel
theorem dX13_scatter_105 : decode cX13_scatter 105 = .ok (.iload_n 3, 1) := by decide +kernel
theorem dX13_scatter_106 : decode cX13_scatter 106 = .ok (.i2l, 1) := by decide +kernel
theorem dX13_scatter_107 : decode cX13_scatter 107 = .ok (.lrem, 1) := by decide +kernel
theorem dX13_scatter_108 : decode cX13_scatter 108 = .ok (.l2i, 1) := by decide +kernel
theorem dX13_scatter_109 : decode cX13_scatter 109 = .ok (.iconst 0, 1) := by decide +kernel
set_option maxRecDepth 20000 in
theorem ggX13_scatter_X13_comes : GoodIn wsX13_scatter wsX13_comes := goodIn_r _ [26, 27, 17, 28, 5, 29, 30, 31, 32, 33, 34, 35, 36, 37, 38, 39, 40, 41, 42, 43] (by decide +kernel) (by decide +kernel)
set_option maxRecDepth 20000 in
theorem gX13_scatter_X13_comes : GoodIn wsX13_scatter (wsV RX13 59 RX13 yX13_comes wsX13_comes) := goodIn_app (goodIn_of _ (by decide +kernel)) ggX13_scatter_X13_comes
theorem dX13_scatter_110 : decode cX13_scatter 110 = .ok (.invokevirtual 59, 3) := by decide +kernel
theorem dX13_scatter_113 : decode cX13_scatter 113 = .ok (.iinc 8 1, 3) := by decide +kernel
theorem dX13_scatter_116 : decode cX13_scatter 116 = .ok (.goto (-41), 3) := by decide +kernel
set_option maxHeartbeats 4000000 in
set_option maxRecDepth 100000 in
theorem c_X13_scatter (l : Launch) (dC : Nat → ClassId) (dI : Nat → Nat → Nat) (g : Nat → ClassId) (b : Nat → Nat) (r1 : Nat → Nat) (r2 : Nat → Nat) (x : Int32) (mn : Int32) (rg : Int32) (sd : Int32) (th : Int32) (sz : Nat) : Met l yX13_scatter wsX13_scatter ({ frames := 2, cells := 50, slots := 5050, locals := 42 }) (va_Pc [.ref (b 0), .int x, .int mn, .int rg, .int sd] (PG (dC, dI) g (modW b r1 r2 g th) sz)) (va_Qi (fun (r : Int32) (_ : Unit) => (cd (TOKb x) (rngb mn 0 50 && rngb rg 1 999 && rngb sd 0 2147483647) true) = 0 → r = mn) (fun (_ : Unit) t => ∃ fs : List Value, va_P (dC, dI) vwCl [(b 0, .inr (15, .int (cd (TOKb x) (rngb mn 0 50 && rngb rg 1 999 && rngb sd 0 2147483647) true) :: fs))] t.heap) (va_A (modW b r1 r2 g th) sz)) 50 5050 (va_A (modW b r1 r2 g th) sz) := by
  refine Met.ofW (cc := cX13_scatter) (maxL := 9) (ret := (some .int)) (by decide) rfl ?_
  intro p e s m args below meth c s₁ B hml hv
  obtain ⟨rfl, hsz, hP, hK, hD0, hG⟩ := hv
  have hx := B.exec
  have hb := B.bytes
  have hr := B.returns
  have hts := atoms_spec (ws := wsX13_scatter) B.pre
  have hown : s.vm.findClass RX13 = some m.cls := findClass_of_methodNamed B.named
  have hlocks := B.notSynchronized
  subst hsz
  have hD := hD0.self (sz := s.heap.size)
  generalize hAe : va_A (modW b r1 r2 g th) s.heap.size = A at hD hG ⊢
  have hA : ∀ q : Nat, s.heap.size ≤ q → A q := fun q h => by rw [← hAe]; exact Or.inr h
  have hS : va_S A s.heap s.heap [] := va_S.rf
  have hl := lv_entry ([.ref (b 0), .int x, .int mn, .int rg, .int sd]) (n := 9) (Nat.le_of_ble_eq_true rfl)
  rw [lg_entry_eq]
  generalize (lg_sl ([.ref (b 0), .int x, .int mn, .int rg, .int sd]) ++ List.replicate (9 - (lg_sl ([.ref (b 0), .int x, .int mn, .int rg, .int sd])).length) Slot.unset).toArray = ls at hl ⊢
  have hl : lv_has ls 9 [(0, .ref (b 0)), (1, .int x), (2, .int mn), (3, .int rg), (4, .int sd)] := hl
  have hf29 := hts (Cond.fieldLink RX13 29 "RunmergeOfficeModel" "tapes" "[[I") (by decide +kernel)
  have hiX13 : ∀ w ∈ u_ws RX13 TX13 14, w ∈ wsX13_scatter := by decide +kernel
  have hk63 := hts (Jvm.Cond.constantLong RX13 63 1103515245) (by decide +kernel)
  have hk65 := hts (Jvm.Cond.constantLong RX13 65 12345) (by decide +kernel)
  have hk67 := hts (Jvm.Cond.constantLong RX13 67 2147483648) (by decide +kernel)
  have hk69 := hts (Jvm.Cond.constantLong RX13 69 65536) (by decide +kernel)
  refine lv_iload_n hx hb dX13_scatter_0 rfl (lv_at hl 1 rfl) ?_
  refine va_calli (va_runS (As := [.int x]) (rest := []) ⟨hx, hb, hml, hown, hts⟩ (c_X13_isTape l dC dI g (modW b r1 r2 g th) x   s.heap.size) (va_cwS 1 hts gX13_scatter_X13_isTape rfl rfl rfl (by decide +kernel) ⟨Nat.le_of_ble_eq_true rfl, Nat.le_of_ble_eq_true rfl⟩) ⟨PG_blind, PG_call hK hG hS hP hD (A_all hD hA hS.1)⟩ rfl rfl hl.1 rfl (lv_room (Nat.le_of_ble_eq_true rfl)) dX13_scatter_1 ⟨Nat.le_of_ble_eq_true rfl, Nat.le_of_ble_eq_true rfl⟩) hS (fun q _ h => (A_all hD hA hS.1) q h) (A_all hD hA hS.1) (fun r_1 u_1 t_1 H_1 L_1 ht_1 hvm_1 hw_1 hB_1 hz_1 hk_1 hS => ?_)
  replace hB_1 := (show va_P (dC, dI) vwCl (modW b r1 r2 g th) t_1.heap from hB_1)
  rw [ht_1] at hB_1
  have hP := hB_1
  obtain rfl : r_1 = b2i (TOKb x) := hw_1
  refine lv_istore (lv' := [(5, .int (b2i (TOKb x))), (0, .ref (b 0)), (1, .int x), (2, .int mn), (3, .int rg), (4, .int sd)]) hx hb dX13_scatter_4 hl (by decide) rfl (fun ls hl => ?_)
  refine lv_aload_n hx hb dX13_scatter_6 rfl (lv_at hl 1 rfl) ?_
  refine lv_iload hx hb dX13_scatter_7 (lv_at hl 0 rfl) ?_
  refine lv_iload_n hx hb dX13_scatter_9 rfl (lv_at hl 3 rfl) ?_
  refine lv_iconst (v := 0) hx hb dX13_scatter_10 (by decide) ?_
  refine lv_bipush (v := 50) hx hb dX13_scatter_11 (by decide) ?_
  refine va_calli (va_runS (As := [.int mn, .int 0, .int 50]) (rest := [.int (b2i (TOKb x)), .ref (b 0)]) ⟨hx, hb, hml, hown, hts⟩ (c_X13_in l dC dI g (modW b r1 r2 g th) mn 0 50   H_1.size) (va_cwS 3 hts gX13_scatter_X13_in rfl rfl rfl (by decide +kernel) ⟨Nat.le_of_ble_eq_true rfl, Nat.le_of_ble_eq_true rfl⟩) ⟨PG_blind, PG_call hK hG hS hP hD (A_all hD hA hS.1)⟩ rfl rfl hl.1 rfl (lv_room (Nat.le_of_ble_eq_true rfl)) dX13_scatter_13 ⟨Nat.le_of_ble_eq_true rfl, Nat.le_of_ble_eq_true rfl⟩) hS (fun q _ h => (A_all hD hA hS.1) q h) (A_all hD hA hS.1) (fun r_2 u_2 t_2 H_2 L_2 ht_2 hvm_2 hw_2 hB_2 hz_2 hk_2 hS => ?_)
  replace hB_2 := (show va_P (dC, dI) vwCl (modW b r1 r2 g th) t_2.heap from hB_2)
  rw [ht_2] at hB_2
  have hP := hB_2
  obtain rfl : r_2 = b2i (rngb mn 0 50) := hw_2
  refine lv_if_eq (tgt := 39) hx hb dX13_scatter_16 (by decide) (fun c_3 => ?_) (fun c_3 => ?_)
  · have hB_4 : (rngb mn 0 50) = false := b2i_0 c_3
    refine lv_iconst (v := 0) hx hb dX13_scatter_39 (by decide) ?_
    refine lv_iload hx hb dX13_scatter_40 (lv_at hl 0 rfl) ?_
    refine lv_if_eq (tgt := 58) hx hb dX13_scatter_42 (by decide) (fun c_5 => ?_) (fun c_5 => ?_)
    · have hB_6 : (TOKb x) = false := b2i_0 c_5
      refine lv_iconst (v := 0) hx hb dX13_scatter_58 (by decide) ?_
      refine va_calli (va_runV (As := [.int (b2i (TOKb x)), .int 0, .int 0]) (rest := []) ⟨hx, hb, hml, hown, hts⟩ (c_X13_passes l dC dI g b r1 r2 th (TOKb x) false false  H_2.size) (cwV 3 hts gX13_scatter_X13_passes rfl rfl rfl (by decide +kernel) ⟨Nat.le_of_ble_eq_true rfl, Nat.le_of_ble_eq_true rfl⟩) ⟨PG_blind, va_recv hK hP (ci := 15) (q0 := 0) rfl (m_0 b r1 r2 g th), PG_call hK hG hS hP hD (A_all hD hA hS.1)⟩ rfl rfl hl.1 rfl (lv_room (Nat.le_of_ble_eq_true rfl)) dX13_scatter_59 ⟨Nat.le_of_ble_eq_true rfl, Nat.le_of_ble_eq_true rfl⟩) hS (fun q _ h => (A_all hD hA hS.1) q h) (A_all hD hA hS.1) (fun r_7 u_7 t_7 H_7 L_7 ht_7 hvm_7 hw_7 hB_7 hz_7 hk_7 hS => ?_)
      rw [ht_7] at hB_7
      have hP : va_P (dC, dI) vwCl (modW b r1 r2 g (cd (TOKb x) false false)) H_7 := hB_7
      have hD : va_D A (modW b r1 r2 g (cd (TOKb x) false false)) := va_D_th hD
      obtain rfl : r_7 = 0 := hw_7.trans (by simp [b2i, hB_6])
      refine lv_if_ne (tgt := 67) hx hb dX13_scatter_62 (by decide) (fun c_8 => absurd (by decide) c_8) (fun c_8 => ?_)
      refine lv_iconst (v := 0) hx hb dX13_scatter_65 (by decide) ?_
      refine W.widen (k := 50) (n := 5050) (by omega) (by omega) ?_
      have hcd : (cd (TOKb x) false false) = (cd (TOKb x) (rngb mn 0 50 && rngb rg 1 999 && rngb sd 0 2147483647) true) := by simp [cd, hB_4, hB_6]
      have hP8 := hP.sub (ws' := [((b 0), .inr (15, [.int (cd (TOKb x) false false), .ref (b 1), .ref (b 2), .int 0, .ref (b 3), .ref (b 4), .ref (b 5), .null, .ref (b 6), .int 0, .int 0, .int 0, .int 0, .int 0]))]) [0] rfl
      rw [hcd] at hP8
      exact W.iret (v := 0) hx hb hr (fun t ht hW => ⟨⟨0, (), rfl, (fun h => by first | rfl | (exact absurd (cd_0.mp h) (by simp [hB_4, hB_6]))), ⟨[.ref (b 1), .ref (b 2), .int 0, .ref (b 3), .ref (b 4), .ref (b 5), .null, .ref (b 6), .int 0, .int 0, .int 0, .int 0, .int 0], P_at ht hP8⟩⟩, hS.F ht⟩) hS.2.2 dX13_scatter_66
    · have hB_6 : (TOKb x) = true := b2i_1 c_5
      obtain ⟨jx, hjx, rfl⟩ := TOK_ex hB_6
      refine lv_aload_n hx hb dX13_scatter_45 rfl (lv_at hl 1 rfl) ?_
      refine lv_iload_n hx hb dX13_scatter_46 rfl (lv_at hl 2 rfl) ?_
      refine lv_iload_n hx hb dX13_scatter_47 rfl (lv_at hl 3 rfl) ?_
      refine va_calli (va_runV (As := [.int (nI jx), .int mn]) (rest := [.int 0, .int (b2i (TOKb (nI jx))), .ref (b 0)]) ⟨hx, hb, hml, hown, hts⟩ (c_X13_haveRoom l dC dI g b r1 r2 jx mn th hjx H_2.size) (cwV 2 hts gX13_scatter_X13_haveRoom rfl rfl rfl (by decide +kernel) ⟨Nat.le_of_ble_eq_true rfl, Nat.le_of_ble_eq_true rfl⟩) ⟨PG_blind, va_recv hK hP (ci := 15) (q0 := 0) rfl (m_0 b r1 r2 g th), PG_call hK hG hS hP hD (A_all hD hA hS.1)⟩ rfl rfl hl.1 rfl (lv_room (Nat.le_of_ble_eq_true rfl)) dX13_scatter_48 ⟨Nat.le_of_ble_eq_true rfl, Nat.le_of_ble_eq_true rfl⟩) hS (fun q _ h => (A_all hD hA hS.1) q h) (A_all hD hA hS.1) (fun r_9 u_9 t_9 H_9 L_9 ht_9 hvm_9 hw_9 hB_9 hz_9 hk_9 hS => ?_)
      replace hB_9 := (show va_P (dC, dI) vwCl (modW b r1 r2 g th) t_9.heap from hB_9)
      rw [ht_9] at hB_9
      have hP := hB_9
      obtain rfl : r_9 = b2i (hrm mn) := hw_9
      refine lv_if_eq (tgt := 58) hx hb dX13_scatter_51 (by decide) (fun c_10 => ?_) (fun c_10 => ?_)
      · have hB_11 : (hrm mn) = false := b2i_0 c_10
        refine lv_iconst (v := 0) hx hb dX13_scatter_58 (by decide) ?_
        refine va_calli (va_runV (As := [.int (b2i (TOKb (nI jx))), .int 0, .int 0]) (rest := []) ⟨hx, hb, hml, hown, hts⟩ (c_X13_passes l dC dI g b r1 r2 th (TOKb (nI jx)) false false  H_9.size) (cwV 3 hts gX13_scatter_X13_passes rfl rfl rfl (by decide +kernel) ⟨Nat.le_of_ble_eq_true rfl, Nat.le_of_ble_eq_true rfl⟩) ⟨PG_blind, va_recv hK hP (ci := 15) (q0 := 0) rfl (m_0 b r1 r2 g th), PG_call hK hG hS hP hD (A_all hD hA hS.1)⟩ rfl rfl hl.1 rfl (lv_room (Nat.le_of_ble_eq_true rfl)) dX13_scatter_59 ⟨Nat.le_of_ble_eq_true rfl, Nat.le_of_ble_eq_true rfl⟩) hS (fun q _ h => (A_all hD hA hS.1) q h) (A_all hD hA hS.1) (fun r_12 u_12 t_12 H_12 L_12 ht_12 hvm_12 hw_12 hB_12 hz_12 hk_12 hS => ?_)
        rw [ht_12] at hB_12
        have hP : va_P (dC, dI) vwCl (modW b r1 r2 g (cd (TOKb (nI jx)) false false)) H_12 := hB_12
        have hD : va_D A (modW b r1 r2 g (cd (TOKb (nI jx)) false false)) := va_D_th hD
        obtain rfl : r_12 = 0 := hw_12.trans (by simp [b2i, (TOK_j hjx rfl)])
        refine lv_if_ne (tgt := 67) hx hb dX13_scatter_62 (by decide) (fun c_13 => absurd (by decide) c_13) (fun c_13 => ?_)
        refine lv_iconst (v := 0) hx hb dX13_scatter_65 (by decide) ?_
        refine W.widen (k := 50) (n := 5050) (by omega) (by omega) ?_
        have hcd : (cd (TOKb (nI jx)) false false) = (cd (TOKb (nI jx)) (rngb mn 0 50 && rngb rg 1 999 && rngb sd 0 2147483647) true) := by simp [cd, hB_4, (TOK_j hjx rfl), hB_11]
        have hP8 := hP.sub (ws' := [((b 0), .inr (15, [.int (cd (TOKb (nI jx)) false false), .ref (b 1), .ref (b 2), .int 0, .ref (b 3), .ref (b 4), .ref (b 5), .null, .ref (b 6), .int 0, .int 0, .int 0, .int 0, .int 0]))]) [0] rfl
        rw [hcd] at hP8
        exact W.iret (v := 0) hx hb hr (fun t ht hW => ⟨⟨0, (), rfl, (fun h => by first | rfl | (exact absurd (cd_0.mp h) (by simp [hB_4, (TOK_j hjx rfl), hB_11]))), ⟨[.ref (b 1), .ref (b 2), .int 0, .ref (b 3), .ref (b 4), .ref (b 5), .null, .ref (b 6), .int 0, .int 0, .int 0, .int 0, .int 0], P_at ht hP8⟩⟩, hS.F ht⟩) hS.2.2 dX13_scatter_66
      · have hB_11 : (hrm mn) = true := b2i_1 c_10
        refine lv_iconst (v := 1) hx hb dX13_scatter_54 (by decide) ?_
        refine lv_goto (tgt := 59) hx hb dX13_scatter_55 (by decide) ?_
        refine va_calli (va_runV (As := [.int (b2i (TOKb (nI jx))), .int 0, .int 1]) (rest := []) ⟨hx, hb, hml, hown, hts⟩ (c_X13_passes l dC dI g b r1 r2 th (TOKb (nI jx)) false true  H_9.size) (cwV 3 hts gX13_scatter_X13_passes rfl rfl rfl (by decide +kernel) ⟨Nat.le_of_ble_eq_true rfl, Nat.le_of_ble_eq_true rfl⟩) ⟨PG_blind, va_recv hK hP (ci := 15) (q0 := 0) rfl (m_0 b r1 r2 g th), PG_call hK hG hS hP hD (A_all hD hA hS.1)⟩ rfl rfl hl.1 rfl (lv_room (Nat.le_of_ble_eq_true rfl)) dX13_scatter_59 ⟨Nat.le_of_ble_eq_true rfl, Nat.le_of_ble_eq_true rfl⟩) hS (fun q _ h => (A_all hD hA hS.1) q h) (A_all hD hA hS.1) (fun r_14 u_14 t_14 H_14 L_14 ht_14 hvm_14 hw_14 hB_14 hz_14 hk_14 hS => ?_)
        rw [ht_14] at hB_14
        have hP : va_P (dC, dI) vwCl (modW b r1 r2 g (cd (TOKb (nI jx)) false true)) H_14 := hB_14
        have hD : va_D A (modW b r1 r2 g (cd (TOKb (nI jx)) false true)) := va_D_th hD
        obtain rfl : r_14 = 0 := hw_14.trans (by simp [b2i, (TOK_j hjx rfl)])
        refine lv_if_ne (tgt := 67) hx hb dX13_scatter_62 (by decide) (fun c_15 => absurd (by decide) c_15) (fun c_15 => ?_)
        refine lv_iconst (v := 0) hx hb dX13_scatter_65 (by decide) ?_
        refine W.widen (k := 50) (n := 5050) (by omega) (by omega) ?_
        have hcd : (cd (TOKb (nI jx)) false true) = (cd (TOKb (nI jx)) (rngb mn 0 50 && rngb rg 1 999 && rngb sd 0 2147483647) true) := by simp [cd, hB_4, (TOK_j hjx rfl), hB_11]
        have hP8 := hP.sub (ws' := [((b 0), .inr (15, [.int (cd (TOKb (nI jx)) false true), .ref (b 1), .ref (b 2), .int 0, .ref (b 3), .ref (b 4), .ref (b 5), .null, .ref (b 6), .int 0, .int 0, .int 0, .int 0, .int 0]))]) [0] rfl
        rw [hcd] at hP8
        exact W.iret (v := 0) hx hb hr (fun t ht hW => ⟨⟨0, (), rfl, (fun h => by first | rfl | (exact absurd (cd_0.mp h) (by simp [hB_4, (TOK_j hjx rfl), hB_11]))), ⟨[.ref (b 1), .ref (b 2), .int 0, .ref (b 3), .ref (b 4), .ref (b 5), .null, .ref (b 6), .int 0, .int 0, .int 0, .int 0, .int 0], P_at ht hP8⟩⟩, hS.F ht⟩) hS.2.2 dX13_scatter_66
  · have hB_4 : (rngb mn 0 50) = true := b2i_1 c_3
    refine lv_iload_n hx hb dX13_scatter_19 rfl (lv_at hl 4 rfl) ?_
    refine lv_iconst (v := 1) hx hb dX13_scatter_20 (by decide) ?_
    refine lv_sipush (v := 999) hx hb dX13_scatter_21 (by decide) ?_
    refine va_calli (va_runS (As := [.int rg, .int 1, .int 999]) (rest := [.int (b2i (TOKb x)), .ref (b 0)]) ⟨hx, hb, hml, hown, hts⟩ (c_X13_in l dC dI g (modW b r1 r2 g th) rg 1 999   H_2.size) (va_cwS 3 hts gX13_scatter_X13_in rfl rfl rfl (by decide +kernel) ⟨Nat.le_of_ble_eq_true rfl, Nat.le_of_ble_eq_true rfl⟩) ⟨PG_blind, PG_call hK hG hS hP hD (A_all hD hA hS.1)⟩ rfl rfl hl.1 rfl (lv_room (Nat.le_of_ble_eq_true rfl)) dX13_scatter_24 ⟨Nat.le_of_ble_eq_true rfl, Nat.le_of_ble_eq_true rfl⟩) hS (fun q _ h => (A_all hD hA hS.1) q h) (A_all hD hA hS.1) (fun r_16 u_16 t_16 H_16 L_16 ht_16 hvm_16 hw_16 hB_16 hz_16 hk_16 hS => ?_)
    replace hB_16 := (show va_P (dC, dI) vwCl (modW b r1 r2 g th) t_16.heap from hB_16)
    rw [ht_16] at hB_16
    have hP := hB_16
    obtain rfl : r_16 = b2i (rngb rg 1 999) := hw_16
    refine lv_if_eq (tgt := 39) hx hb dX13_scatter_27 (by decide) (fun c_17 => ?_) (fun c_17 => ?_)
    · have hB_18 : (rngb rg 1 999) = false := b2i_0 c_17
      refine lv_iconst (v := 0) hx hb dX13_scatter_39 (by decide) ?_
      refine lv_iload hx hb dX13_scatter_40 (lv_at hl 0 rfl) ?_
      refine lv_if_eq (tgt := 58) hx hb dX13_scatter_42 (by decide) (fun c_19 => ?_) (fun c_19 => ?_)
      · have hB_20 : (TOKb x) = false := b2i_0 c_19
        refine lv_iconst (v := 0) hx hb dX13_scatter_58 (by decide) ?_
        refine va_calli (va_runV (As := [.int (b2i (TOKb x)), .int 0, .int 0]) (rest := []) ⟨hx, hb, hml, hown, hts⟩ (c_X13_passes l dC dI g b r1 r2 th (TOKb x) false false  H_16.size) (cwV 3 hts gX13_scatter_X13_passes rfl rfl rfl (by decide +kernel) ⟨Nat.le_of_ble_eq_true rfl, Nat.le_of_ble_eq_true rfl⟩) ⟨PG_blind, va_recv hK hP (ci := 15) (q0 := 0) rfl (m_0 b r1 r2 g th), PG_call hK hG hS hP hD (A_all hD hA hS.1)⟩ rfl rfl hl.1 rfl (lv_room (Nat.le_of_ble_eq_true rfl)) dX13_scatter_59 ⟨Nat.le_of_ble_eq_true rfl, Nat.le_of_ble_eq_true rfl⟩) hS (fun q _ h => (A_all hD hA hS.1) q h) (A_all hD hA hS.1) (fun r_21 u_21 t_21 H_21 L_21 ht_21 hvm_21 hw_21 hB_21 hz_21 hk_21 hS => ?_)
        rw [ht_21] at hB_21
        have hP : va_P (dC, dI) vwCl (modW b r1 r2 g (cd (TOKb x) false false)) H_21 := hB_21
        have hD : va_D A (modW b r1 r2 g (cd (TOKb x) false false)) := va_D_th hD
        obtain rfl : r_21 = 0 := hw_21.trans (by simp [b2i, hB_20])
        refine lv_if_ne (tgt := 67) hx hb dX13_scatter_62 (by decide) (fun c_22 => absurd (by decide) c_22) (fun c_22 => ?_)
        refine lv_iconst (v := 0) hx hb dX13_scatter_65 (by decide) ?_
        refine W.widen (k := 50) (n := 5050) (by omega) (by omega) ?_
        have hcd : (cd (TOKb x) false false) = (cd (TOKb x) (rngb mn 0 50 && rngb rg 1 999 && rngb sd 0 2147483647) true) := by simp [cd, hB_4, hB_18, hB_20]
        have hP8 := hP.sub (ws' := [((b 0), .inr (15, [.int (cd (TOKb x) false false), .ref (b 1), .ref (b 2), .int 0, .ref (b 3), .ref (b 4), .ref (b 5), .null, .ref (b 6), .int 0, .int 0, .int 0, .int 0, .int 0]))]) [0] rfl
        rw [hcd] at hP8
        exact W.iret (v := 0) hx hb hr (fun t ht hW => ⟨⟨0, (), rfl, (fun h => by first | rfl | (exact absurd (cd_0.mp h) (by simp [hB_4, hB_18, hB_20]))), ⟨[.ref (b 1), .ref (b 2), .int 0, .ref (b 3), .ref (b 4), .ref (b 5), .null, .ref (b 6), .int 0, .int 0, .int 0, .int 0, .int 0], P_at ht hP8⟩⟩, hS.F ht⟩) hS.2.2 dX13_scatter_66
      · have hB_20 : (TOKb x) = true := b2i_1 c_19
        obtain ⟨jx, hjx, rfl⟩ := TOK_ex hB_20
        refine lv_aload_n hx hb dX13_scatter_45 rfl (lv_at hl 1 rfl) ?_
        refine lv_iload_n hx hb dX13_scatter_46 rfl (lv_at hl 2 rfl) ?_
        refine lv_iload_n hx hb dX13_scatter_47 rfl (lv_at hl 3 rfl) ?_
        refine va_calli (va_runV (As := [.int (nI jx), .int mn]) (rest := [.int 0, .int (b2i (TOKb (nI jx))), .ref (b 0)]) ⟨hx, hb, hml, hown, hts⟩ (c_X13_haveRoom l dC dI g b r1 r2 jx mn th hjx H_16.size) (cwV 2 hts gX13_scatter_X13_haveRoom rfl rfl rfl (by decide +kernel) ⟨Nat.le_of_ble_eq_true rfl, Nat.le_of_ble_eq_true rfl⟩) ⟨PG_blind, va_recv hK hP (ci := 15) (q0 := 0) rfl (m_0 b r1 r2 g th), PG_call hK hG hS hP hD (A_all hD hA hS.1)⟩ rfl rfl hl.1 rfl (lv_room (Nat.le_of_ble_eq_true rfl)) dX13_scatter_48 ⟨Nat.le_of_ble_eq_true rfl, Nat.le_of_ble_eq_true rfl⟩) hS (fun q _ h => (A_all hD hA hS.1) q h) (A_all hD hA hS.1) (fun r_23 u_23 t_23 H_23 L_23 ht_23 hvm_23 hw_23 hB_23 hz_23 hk_23 hS => ?_)
        replace hB_23 := (show va_P (dC, dI) vwCl (modW b r1 r2 g th) t_23.heap from hB_23)
        rw [ht_23] at hB_23
        have hP := hB_23
        obtain rfl : r_23 = 1 := hw_23.trans (by rw [hrm_t hB_4]; rfl)
        refine lv_if_eq (tgt := 58) hx hb dX13_scatter_51 (by decide) (fun c_24 => absurd c_24 (by decide)) (fun c_24 => ?_)
        refine lv_iconst (v := 1) hx hb dX13_scatter_54 (by decide) ?_
        refine lv_goto (tgt := 59) hx hb dX13_scatter_55 (by decide) ?_
        refine va_calli (va_runV (As := [.int (b2i (TOKb (nI jx))), .int 0, .int 1]) (rest := []) ⟨hx, hb, hml, hown, hts⟩ (c_X13_passes l dC dI g b r1 r2 th (TOKb (nI jx)) false true  H_23.size) (cwV 3 hts gX13_scatter_X13_passes rfl rfl rfl (by decide +kernel) ⟨Nat.le_of_ble_eq_true rfl, Nat.le_of_ble_eq_true rfl⟩) ⟨PG_blind, va_recv hK hP (ci := 15) (q0 := 0) rfl (m_0 b r1 r2 g th), PG_call hK hG hS hP hD (A_all hD hA hS.1)⟩ rfl rfl hl.1 rfl (lv_room (Nat.le_of_ble_eq_true rfl)) dX13_scatter_59 ⟨Nat.le_of_ble_eq_true rfl, Nat.le_of_ble_eq_true rfl⟩) hS (fun q _ h => (A_all hD hA hS.1) q h) (A_all hD hA hS.1) (fun r_25 u_25 t_25 H_25 L_25 ht_25 hvm_25 hw_25 hB_25 hz_25 hk_25 hS => ?_)
        rw [ht_25] at hB_25
        have hP : va_P (dC, dI) vwCl (modW b r1 r2 g (cd (TOKb (nI jx)) false true)) H_25 := hB_25
        have hD : va_D A (modW b r1 r2 g (cd (TOKb (nI jx)) false true)) := va_D_th hD
        obtain rfl : r_25 = 0 := hw_25.trans (by simp [b2i, (TOK_j hjx rfl)])
        refine lv_if_ne (tgt := 67) hx hb dX13_scatter_62 (by decide) (fun c_26 => absurd (by decide) c_26) (fun c_26 => ?_)
        refine lv_iconst (v := 0) hx hb dX13_scatter_65 (by decide) ?_
        refine W.widen (k := 50) (n := 5050) (by omega) (by omega) ?_
        have hcd : (cd (TOKb (nI jx)) false true) = (cd (TOKb (nI jx)) (rngb mn 0 50 && rngb rg 1 999 && rngb sd 0 2147483647) true) := by simp [cd, hB_4, hB_18, (TOK_j hjx rfl)]
        have hP8 := hP.sub (ws' := [((b 0), .inr (15, [.int (cd (TOKb (nI jx)) false true), .ref (b 1), .ref (b 2), .int 0, .ref (b 3), .ref (b 4), .ref (b 5), .null, .ref (b 6), .int 0, .int 0, .int 0, .int 0, .int 0]))]) [0] rfl
        rw [hcd] at hP8
        exact W.iret (v := 0) hx hb hr (fun t ht hW => ⟨⟨0, (), rfl, (fun h => by first | rfl | (exact absurd (cd_0.mp h) (by simp [hB_4, hB_18, (TOK_j hjx rfl)]))), ⟨[.ref (b 1), .ref (b 2), .int 0, .ref (b 3), .ref (b 4), .ref (b 5), .null, .ref (b 6), .int 0, .int 0, .int 0, .int 0, .int 0], P_at ht hP8⟩⟩, hS.F ht⟩) hS.2.2 dX13_scatter_66
    · have hB_18 : (rngb rg 1 999) = true := b2i_1 c_17
      refine lv_iload hx hb dX13_scatter_30 (lv_at hl 5 rfl) ?_
      refine lv_if_lt (tgt := 39) hx hb dX13_scatter_32 (by decide) (fun c_27 => ?_) (fun c_27 => ?_)
      · have hsd : rngb sd 0 2147483647 = false := rng_lo c_27
        refine lv_iconst (v := 0) hx hb dX13_scatter_39 (by decide) ?_
        refine lv_iload hx hb dX13_scatter_40 (lv_at hl 0 rfl) ?_
        refine lv_if_eq (tgt := 58) hx hb dX13_scatter_42 (by decide) (fun c_28 => ?_) (fun c_28 => ?_)
        · have hB_29 : (TOKb x) = false := b2i_0 c_28
          refine lv_iconst (v := 0) hx hb dX13_scatter_58 (by decide) ?_
          refine va_calli (va_runV (As := [.int (b2i (TOKb x)), .int 0, .int 0]) (rest := []) ⟨hx, hb, hml, hown, hts⟩ (c_X13_passes l dC dI g b r1 r2 th (TOKb x) false false  H_16.size) (cwV 3 hts gX13_scatter_X13_passes rfl rfl rfl (by decide +kernel) ⟨Nat.le_of_ble_eq_true rfl, Nat.le_of_ble_eq_true rfl⟩) ⟨PG_blind, va_recv hK hP (ci := 15) (q0 := 0) rfl (m_0 b r1 r2 g th), PG_call hK hG hS hP hD (A_all hD hA hS.1)⟩ rfl rfl hl.1 rfl (lv_room (Nat.le_of_ble_eq_true rfl)) dX13_scatter_59 ⟨Nat.le_of_ble_eq_true rfl, Nat.le_of_ble_eq_true rfl⟩) hS (fun q _ h => (A_all hD hA hS.1) q h) (A_all hD hA hS.1) (fun r_30 u_30 t_30 H_30 L_30 ht_30 hvm_30 hw_30 hB_30 hz_30 hk_30 hS => ?_)
          rw [ht_30] at hB_30
          have hP : va_P (dC, dI) vwCl (modW b r1 r2 g (cd (TOKb x) false false)) H_30 := hB_30
          have hD : va_D A (modW b r1 r2 g (cd (TOKb x) false false)) := va_D_th hD
          obtain rfl : r_30 = 0 := hw_30.trans (by simp [b2i, hB_29])
          refine lv_if_ne (tgt := 67) hx hb dX13_scatter_62 (by decide) (fun c_31 => absurd (by decide) c_31) (fun c_31 => ?_)
          refine lv_iconst (v := 0) hx hb dX13_scatter_65 (by decide) ?_
          refine W.widen (k := 50) (n := 5050) (by omega) (by omega) ?_
          have hcd : (cd (TOKb x) false false) = (cd (TOKb x) (rngb mn 0 50 && rngb rg 1 999 && rngb sd 0 2147483647) true) := by simp [cd, hB_4, hB_18, hsd, hB_29]
          have hP8 := hP.sub (ws' := [((b 0), .inr (15, [.int (cd (TOKb x) false false), .ref (b 1), .ref (b 2), .int 0, .ref (b 3), .ref (b 4), .ref (b 5), .null, .ref (b 6), .int 0, .int 0, .int 0, .int 0, .int 0]))]) [0] rfl
          rw [hcd] at hP8
          exact W.iret (v := 0) hx hb hr (fun t ht hW => ⟨⟨0, (), rfl, (fun h => by first | rfl | (exact absurd (cd_0.mp h) (by simp [hB_4, hB_18, hsd, hB_29]))), ⟨[.ref (b 1), .ref (b 2), .int 0, .ref (b 3), .ref (b 4), .ref (b 5), .null, .ref (b 6), .int 0, .int 0, .int 0, .int 0, .int 0], P_at ht hP8⟩⟩, hS.F ht⟩) hS.2.2 dX13_scatter_66
        · have hB_29 : (TOKb x) = true := b2i_1 c_28
          obtain ⟨jx, hjx, rfl⟩ := TOK_ex hB_29
          refine lv_aload_n hx hb dX13_scatter_45 rfl (lv_at hl 1 rfl) ?_
          refine lv_iload_n hx hb dX13_scatter_46 rfl (lv_at hl 2 rfl) ?_
          refine lv_iload_n hx hb dX13_scatter_47 rfl (lv_at hl 3 rfl) ?_
          refine va_calli (va_runV (As := [.int (nI jx), .int mn]) (rest := [.int 0, .int (b2i (TOKb (nI jx))), .ref (b 0)]) ⟨hx, hb, hml, hown, hts⟩ (c_X13_haveRoom l dC dI g b r1 r2 jx mn th hjx H_16.size) (cwV 2 hts gX13_scatter_X13_haveRoom rfl rfl rfl (by decide +kernel) ⟨Nat.le_of_ble_eq_true rfl, Nat.le_of_ble_eq_true rfl⟩) ⟨PG_blind, va_recv hK hP (ci := 15) (q0 := 0) rfl (m_0 b r1 r2 g th), PG_call hK hG hS hP hD (A_all hD hA hS.1)⟩ rfl rfl hl.1 rfl (lv_room (Nat.le_of_ble_eq_true rfl)) dX13_scatter_48 ⟨Nat.le_of_ble_eq_true rfl, Nat.le_of_ble_eq_true rfl⟩) hS (fun q _ h => (A_all hD hA hS.1) q h) (A_all hD hA hS.1) (fun r_32 u_32 t_32 H_32 L_32 ht_32 hvm_32 hw_32 hB_32 hz_32 hk_32 hS => ?_)
          replace hB_32 := (show va_P (dC, dI) vwCl (modW b r1 r2 g th) t_32.heap from hB_32)
          rw [ht_32] at hB_32
          have hP := hB_32
          obtain rfl : r_32 = 1 := hw_32.trans (by rw [hrm_t hB_4]; rfl)
          refine lv_if_eq (tgt := 58) hx hb dX13_scatter_51 (by decide) (fun c_33 => absurd c_33 (by decide)) (fun c_33 => ?_)
          refine lv_iconst (v := 1) hx hb dX13_scatter_54 (by decide) ?_
          refine lv_goto (tgt := 59) hx hb dX13_scatter_55 (by decide) ?_
          refine va_calli (va_runV (As := [.int (b2i (TOKb (nI jx))), .int 0, .int 1]) (rest := []) ⟨hx, hb, hml, hown, hts⟩ (c_X13_passes l dC dI g b r1 r2 th (TOKb (nI jx)) false true  H_32.size) (cwV 3 hts gX13_scatter_X13_passes rfl rfl rfl (by decide +kernel) ⟨Nat.le_of_ble_eq_true rfl, Nat.le_of_ble_eq_true rfl⟩) ⟨PG_blind, va_recv hK hP (ci := 15) (q0 := 0) rfl (m_0 b r1 r2 g th), PG_call hK hG hS hP hD (A_all hD hA hS.1)⟩ rfl rfl hl.1 rfl (lv_room (Nat.le_of_ble_eq_true rfl)) dX13_scatter_59 ⟨Nat.le_of_ble_eq_true rfl, Nat.le_of_ble_eq_true rfl⟩) hS (fun q _ h => (A_all hD hA hS.1) q h) (A_all hD hA hS.1) (fun r_34 u_34 t_34 H_34 L_34 ht_34 hvm_34 hw_34 hB_34 hz_34 hk_34 hS => ?_)
          rw [ht_34] at hB_34
          have hP : va_P (dC, dI) vwCl (modW b r1 r2 g (cd (TOKb (nI jx)) false true)) H_34 := hB_34
          have hD : va_D A (modW b r1 r2 g (cd (TOKb (nI jx)) false true)) := va_D_th hD
          obtain rfl : r_34 = 0 := hw_34.trans (by simp [b2i, (TOK_j hjx rfl)])
          refine lv_if_ne (tgt := 67) hx hb dX13_scatter_62 (by decide) (fun c_35 => absurd (by decide) c_35) (fun c_35 => ?_)
          refine lv_iconst (v := 0) hx hb dX13_scatter_65 (by decide) ?_
          refine W.widen (k := 50) (n := 5050) (by omega) (by omega) ?_
          have hcd : (cd (TOKb (nI jx)) false true) = (cd (TOKb (nI jx)) (rngb mn 0 50 && rngb rg 1 999 && rngb sd 0 2147483647) true) := by simp [cd, hB_4, hB_18, hsd, (TOK_j hjx rfl)]
          have hP8 := hP.sub (ws' := [((b 0), .inr (15, [.int (cd (TOKb (nI jx)) false true), .ref (b 1), .ref (b 2), .int 0, .ref (b 3), .ref (b 4), .ref (b 5), .null, .ref (b 6), .int 0, .int 0, .int 0, .int 0, .int 0]))]) [0] rfl
          rw [hcd] at hP8
          exact W.iret (v := 0) hx hb hr (fun t ht hW => ⟨⟨0, (), rfl, (fun h => by first | rfl | (exact absurd (cd_0.mp h) (by simp [hB_4, hB_18, hsd, (TOK_j hjx rfl)]))), ⟨[.ref (b 1), .ref (b 2), .int 0, .ref (b 3), .ref (b 4), .ref (b 5), .null, .ref (b 6), .int 0, .int 0, .int 0, .int 0, .int 0], P_at ht hP8⟩⟩, hS.F ht⟩) hS.2.2 dX13_scatter_66
      · have hsd : rngb sd 0 2147483647 = true := rng_sd c_27
        refine lv_iconst (v := 1) hx hb dX13_scatter_35 (by decide) ?_
        refine lv_goto (tgt := 40) hx hb dX13_scatter_36 (by decide) ?_
        refine lv_iload hx hb dX13_scatter_40 (lv_at hl 0 rfl) ?_
        refine lv_if_eq (tgt := 58) hx hb dX13_scatter_42 (by decide) (fun c_36 => ?_) (fun c_36 => ?_)
        · have hB_37 : (TOKb x) = false := b2i_0 c_36
          refine lv_iconst (v := 0) hx hb dX13_scatter_58 (by decide) ?_
          refine va_calli (va_runV (As := [.int (b2i (TOKb x)), .int 1, .int 0]) (rest := []) ⟨hx, hb, hml, hown, hts⟩ (c_X13_passes l dC dI g b r1 r2 th (TOKb x) true false  H_16.size) (cwV 3 hts gX13_scatter_X13_passes rfl rfl rfl (by decide +kernel) ⟨Nat.le_of_ble_eq_true rfl, Nat.le_of_ble_eq_true rfl⟩) ⟨PG_blind, va_recv hK hP (ci := 15) (q0 := 0) rfl (m_0 b r1 r2 g th), PG_call hK hG hS hP hD (A_all hD hA hS.1)⟩ rfl rfl hl.1 rfl (lv_room (Nat.le_of_ble_eq_true rfl)) dX13_scatter_59 ⟨Nat.le_of_ble_eq_true rfl, Nat.le_of_ble_eq_true rfl⟩) hS (fun q _ h => (A_all hD hA hS.1) q h) (A_all hD hA hS.1) (fun r_38 u_38 t_38 H_38 L_38 ht_38 hvm_38 hw_38 hB_38 hz_38 hk_38 hS => ?_)
          rw [ht_38] at hB_38
          have hP : va_P (dC, dI) vwCl (modW b r1 r2 g (cd (TOKb x) true false)) H_38 := hB_38
          have hD : va_D A (modW b r1 r2 g (cd (TOKb x) true false)) := va_D_th hD
          obtain rfl : r_38 = 0 := hw_38.trans (by simp [b2i, hB_37])
          refine lv_if_ne (tgt := 67) hx hb dX13_scatter_62 (by decide) (fun c_39 => absurd (by decide) c_39) (fun c_39 => ?_)
          refine lv_iconst (v := 0) hx hb dX13_scatter_65 (by decide) ?_
          refine W.widen (k := 50) (n := 5050) (by omega) (by omega) ?_
          have hcd : (cd (TOKb x) true false) = (cd (TOKb x) (rngb mn 0 50 && rngb rg 1 999 && rngb sd 0 2147483647) true) := by simp [cd, hB_4, hB_18, hsd, hB_37]
          have hP8 := hP.sub (ws' := [((b 0), .inr (15, [.int (cd (TOKb x) true false), .ref (b 1), .ref (b 2), .int 0, .ref (b 3), .ref (b 4), .ref (b 5), .null, .ref (b 6), .int 0, .int 0, .int 0, .int 0, .int 0]))]) [0] rfl
          rw [hcd] at hP8
          exact W.iret (v := 0) hx hb hr (fun t ht hW => ⟨⟨0, (), rfl, (fun h => by first | rfl | (exact absurd (cd_0.mp h) (by simp [hB_4, hB_18, hsd, hB_37]))), ⟨[.ref (b 1), .ref (b 2), .int 0, .ref (b 3), .ref (b 4), .ref (b 5), .null, .ref (b 6), .int 0, .int 0, .int 0, .int 0, .int 0], P_at ht hP8⟩⟩, hS.F ht⟩) hS.2.2 dX13_scatter_66
        · have hB_37 : (TOKb x) = true := b2i_1 c_36
          obtain ⟨jx, hjx, rfl⟩ := TOK_ex hB_37
          refine lv_aload_n hx hb dX13_scatter_45 rfl (lv_at hl 1 rfl) ?_
          refine lv_iload_n hx hb dX13_scatter_46 rfl (lv_at hl 2 rfl) ?_
          refine lv_iload_n hx hb dX13_scatter_47 rfl (lv_at hl 3 rfl) ?_
          refine va_calli (va_runV (As := [.int (nI jx), .int mn]) (rest := [.int 1, .int (b2i (TOKb (nI jx))), .ref (b 0)]) ⟨hx, hb, hml, hown, hts⟩ (c_X13_haveRoom l dC dI g b r1 r2 jx mn th hjx H_16.size) (cwV 2 hts gX13_scatter_X13_haveRoom rfl rfl rfl (by decide +kernel) ⟨Nat.le_of_ble_eq_true rfl, Nat.le_of_ble_eq_true rfl⟩) ⟨PG_blind, va_recv hK hP (ci := 15) (q0 := 0) rfl (m_0 b r1 r2 g th), PG_call hK hG hS hP hD (A_all hD hA hS.1)⟩ rfl rfl hl.1 rfl (lv_room (Nat.le_of_ble_eq_true rfl)) dX13_scatter_48 ⟨Nat.le_of_ble_eq_true rfl, Nat.le_of_ble_eq_true rfl⟩) hS (fun q _ h => (A_all hD hA hS.1) q h) (A_all hD hA hS.1) (fun r_40 u_40 t_40 H_40 L_40 ht_40 hvm_40 hw_40 hB_40 hz_40 hk_40 hS => ?_)
          replace hB_40 := (show va_P (dC, dI) vwCl (modW b r1 r2 g th) t_40.heap from hB_40)
          rw [ht_40] at hB_40
          have hP := hB_40
          obtain rfl : r_40 = 1 := hw_40.trans (by rw [hrm_t hB_4]; rfl)
          refine lv_if_eq (tgt := 58) hx hb dX13_scatter_51 (by decide) (fun c_41 => absurd c_41 (by decide)) (fun c_41 => ?_)
          refine lv_iconst (v := 1) hx hb dX13_scatter_54 (by decide) ?_
          refine lv_goto (tgt := 59) hx hb dX13_scatter_55 (by decide) ?_
          refine va_calli (va_runV (As := [.int (b2i (TOKb (nI jx))), .int 1, .int 1]) (rest := []) ⟨hx, hb, hml, hown, hts⟩ (c_X13_passes l dC dI g b r1 r2 th (TOKb (nI jx)) true true  H_40.size) (cwV 3 hts gX13_scatter_X13_passes rfl rfl rfl (by decide +kernel) ⟨Nat.le_of_ble_eq_true rfl, Nat.le_of_ble_eq_true rfl⟩) ⟨PG_blind, va_recv hK hP (ci := 15) (q0 := 0) rfl (m_0 b r1 r2 g th), PG_call hK hG hS hP hD (A_all hD hA hS.1)⟩ rfl rfl hl.1 rfl (lv_room (Nat.le_of_ble_eq_true rfl)) dX13_scatter_59 ⟨Nat.le_of_ble_eq_true rfl, Nat.le_of_ble_eq_true rfl⟩) hS (fun q _ h => (A_all hD hA hS.1) q h) (A_all hD hA hS.1) (fun r_42 u_42 t_42 H_42 L_42 ht_42 hvm_42 hw_42 hB_42 hz_42 hk_42 hS => ?_)
          rw [ht_42] at hB_42
          have hP : va_P (dC, dI) vwCl (modW b r1 r2 g (cd (TOKb (nI jx)) true true)) H_42 := hB_42
          have hD : va_D A (modW b r1 r2 g (cd (TOKb (nI jx)) true true)) := va_D_th hD
          obtain rfl : r_42 = 1 := hw_42.trans (by simp [b2i, (TOK_j hjx rfl)])
          refine lv_if_ne (tgt := 67) hx hb dX13_scatter_62 (by decide) (fun c_43 => ?_) (fun c_43 => absurd c_43 (by decide))
          refine lv_iload hx hb dX13_scatter_67 (lv_at hl 5 rfl) ?_
          refine lv_i2l (v := sd.toInt64) hx hb dX13_scatter_69 rfl ?_
          refine lv_lstore (lv' := [(6, .long sd.toInt64), (5, .int (b2i (TOKb (nI jx)))), (0, .ref (b 0)), (1, .int (nI jx)), (2, .int mn), (3, .int rg), (4, .int sd)]) hx hb dX13_scatter_70 hl (by decide) rfl (fun ls hl => ?_)
          refine lv_iconst (v := 0) hx hb dX13_scatter_72 (by decide) ?_
          refine lv_istore (lv' := [(8, .int 0), (6, .long sd.toInt64), (5, .int (b2i (TOKb (nI jx)))), (0, .ref (b 0)), (1, .int (nI jx)), (2, .int mn), (3, .int rg), (4, .int sd)]) hx hb dX13_scatter_73 hl (by decide) rfl (fun ls hl => ?_)
          obtain ⟨M, hM, rfl⟩ := rng_ex (n := 50) hB_4 (by decide)
          obtain ⟨hP, hD⟩ := mod_x b r1 r2 g (cd (TOKb (nI jx)) true true) jx hjx hP hD
          replace hP := hP.sub (ws' := [((b 0), .inr (15, [.int (cd (TOKb (nI jx)) true true), .ref (b 1), .ref (b 2), .int (nI 0), .ref (b 3), .ref (b 4), .ref (b 5), .null, .ref (b 6), .int 0, .int 0, .int 0, .int 0, .int 0])), ((b 3), .inl (g 4, 8, .inr (.inr (.inr (.inr (fun i => if i < 8 then some (r1 i) else none)))))), ((r1 jx), .inl (g 0, 0, .inl (fun _ => 0))), ((b 1), .inl (g 0, 200, .inl (fun _ => 0))), ((b 2), .inl (g 0, 200, .inl (fun _ => 0)))]) [0, 1, 2, 3, 4] rfl
          replace hD := hD.sub (ws' := [((b 0), .inr (15, [.int (cd (TOKb (nI jx)) true true), .ref (b 1), .ref (b 2), .int (nI 0), .ref (b 3), .ref (b 4), .ref (b 5), .null, .ref (b 6), .int 0, .int 0, .int 0, .int 0, .int 0])), ((b 3), .inl (g 4, 8, .inr (.inr (.inr (.inr (fun i => if i < 8 then some (r1 i) else none)))))), ((r1 jx), .inl (g 0, 0, .inl (fun _ => 0))), ((b 1), .inl (g 0, 200, .inl (fun _ => 0))), ((b 2), .inl (g 0, 200, .inl (fun _ => 0)))]) [0, 1, 2, 3, 4] (by decide) rfl
          have hP : va_P (dC, dI) vwCl [((b 0), .inr (15, [.int (cd (TOKb (nI jx)) true true), .ref (b 1), .ref (b 2), .int (nI 0), .ref (b 3), .ref (b 4), .ref (b 5), .null, .ref (b 6), .int 0, .int 0, .int 0, .int 0, .int 0])), ((b 3), .inl (g 4, 8, .inr (.inr (.inr (.inr (fun i => if i < 8 then some (r1 i) else none)))))), ((r1 jx), .inl (g 0, 0, .inl (fun _ => 0))), ((b 1), .inl (g 0, 200, .inl (fun _ => 0))), ((b 2), .inl (g 0, 200, .inl (fun _ => 0)))] H_42 := hP
          have hD : va_D A [((b 0), .inr (15, [.int (cd (TOKb (nI jx)) true true), .ref (b 1), .ref (b 2), .int (nI 0), .ref (b 3), .ref (b 4), .ref (b 5), .null, .ref (b 6), .int 0, .int 0, .int 0, .int 0, .int 0])), ((b 3), .inl (g 4, 8, .inr (.inr (.inr (.inr (fun i => if i < 8 then some (r1 i) else none)))))), ((r1 jx), .inl (g 0, 0, .inl (fun _ => 0))), ((b 1), .inl (g 0, 200, .inl (fun _ => 0))), ((b 2), .inl (g 0, 200, .inl (fun _ => 0)))] := hD
          refine W_abs (fun Q hQ => ?_)
          have LOOP75 : ∀ (n i : Nat), i ≤ M → M < i + n → ∀ (fk : Nat → Int32) (fm : Nat → Int32) (fr : Nat → Int32) (xl : Int64) (fo : Nat → Option Nat) (q : Nat) (H : Heap) (locs : List Loc), fo jx = some q → va_P (dC, dI) vwCl [((b 0), .inr (15, [.int (cd (TOKb (nI jx)) true true), .ref (b 1), .ref (b 2), .int (nI i), .ref (b 3), .ref (b 4), .ref (b 5), .null, .ref (b 6), .int 0, .int 0, .int 0, .int 0, .int 0])), ((b 3), .inl (g 4, 8, .inr (.inr (.inr (.inr fo))))), (q, .inl (g 0, i, .inl fr)), ((b 1), .inl (g 0, 200, .inl fk)), ((b 2), .inl (g 0, 200, .inl fm))] H → va_D A [((b 0), .inr (15, [.int (cd (TOKb (nI jx)) true true), .ref (b 1), .ref (b 2), .int (nI i), .ref (b 3), .ref (b 4), .ref (b 5), .null, .ref (b 6), .int 0, .int 0, .int 0, .int 0, .int 0])), ((b 3), .inl (g 4, 8, .inr (.inr (.inr (.inr fo))))), (q, .inl (g 0, i, .inl fr)), ((b 1), .inl (g 0, 200, .inl fk)), ((b 2), .inl (g 0, 200, .inl fm))] → va_S A s.heap H locs → ∀ (ls : Array Slot), lv_has ls 9 [(8, .int (nI i)), (0, .ref (b 0)), (1, .int (nI jx)), (2, .int (nI M)), (3, .int rg), (4, .int sd), (6, .long xl)] → W p l e (headSpec wsX13_scatter ({ frames := 2, cells := 50, slots := 5050, locals := 42 })).room s m ([.ref (b 0), .int (nI jx), .int (nI M), .int rg, .int sd] : List Value).toArray below meth c H locs (i) (101 * i) Q (F0 m 75 ls []) := by
            intro n
            induction n with
            | zero =>
              intro i h1 h2
              exact absurd h2 (by omega)
            | succ n ih =>
              intro i hi hin fk fm fr xl fo q H locs hfo hP hD hS ls hl
              refine lv_iload hx hb dX13_scatter_75 (lv_at hl 0 rfl) ?_
              refine lv_iload_n hx hb dX13_scatter_77 rfl (lv_at hl 3 rfl) ?_
              refine lv_icmp_ge (tgt := 119) hx hb dX13_scatter_78 (by decide) (fun c_44 => ?_) (fun c_44 => ?_)
              · have h9 := (nI_leI (by omega) (by omega)).mp c_44
                obtain rfl : M = i := by omega
                refine lv_aload_n hx hb dX13_scatter_119 rfl (lv_at hl 1 rfl) ?_
                refine va_get (D := (dC, dI)) (ci := 15) (v := .ref (b 3)) (C := RX13) (T := TX13) (N := 14) hx hb hts hiX13 hown hK hP 0 rfl rfl 4 (by decide) hf29 (fun _ h9 => h9) rfl dX13_scatter_120 ?_
                refine lv_iload_n hx hb dX13_scatter_123 rfl (lv_at hl 2 rfl) ?_
                refine va_aldA hx hb hK hP 1 rfl (vp_in_nI hjx (by decide)) dX13_scatter_124 ?_
                refine W.eq (g2 := F0 m 125 ls [.ref q]) (by rw [nI_clamp (show jx < 2 ^ 31 by omega), hfo]; rfl) ?_
                refine va_alen hx hb hK hP 2 0 rfl rfl (v := nI M) rfl dX13_scatter_125 ?_
                refine W.widen (k := 50) (n := 5050) (by omega) (by omega) ?_
                subst hQ
                have hcd : (cd (TOKb (nI jx)) true true) = (cd (TOKb (nI jx)) (rngb (nI M) 0 50 && rngb rg 1 999 && rngb sd 0 2147483647) true) := by simp [cd, hB_4, hB_18, hsd, (TOK_j hjx rfl)]
                have hP8 := hP.sub (ws' := [((b 0), .inr (15, [.int (cd (TOKb (nI jx)) true true), .ref (b 1), .ref (b 2), .int (nI M), .ref (b 3), .ref (b 4), .ref (b 5), .null, .ref (b 6), .int 0, .int 0, .int 0, .int 0, .int 0]))]) [0] rfl
                rw [hcd] at hP8
                exact W.iret (v := (nI M)) hx hb hr (fun t ht hW => ⟨⟨(nI M), (), rfl, (fun h => by first | rfl | (exact absurd (cd_0.mp h) (by simp [hB_4, hB_18, hsd, (TOK_j hjx rfl)]))), ⟨[.ref (b 1), .ref (b 2), .int (nI M), .ref (b 3), .ref (b 4), .ref (b 5), .null, .ref (b 6), .int 0, .int 0, .int 0, .int 0, .int 0], P_at ht hP8⟩⟩, hS.F ht⟩) hS.2.2 dX13_scatter_126
              · have hlt : i < M := by
                  rcases Nat.lt_or_ge i M with q | q
                  · exact q
                  · exact absurd (nI_le q (by omega)) c_44
                refine lv_lload hx hb dX13_scatter_81 (lv_at hl 6 rfl) ?_
                refine lv_ldc2 hx hb hown hk63 dX13_scatter_83 ?_
                refine lv_lmul hx hb dX13_scatter_86 ?_
                refine lv_topl (fun x_45 ex_45 => ?_)
                refine lv_ldc2 hx hb hown hk65 dX13_scatter_87 ?_
                refine lv_ladd hx hb dX13_scatter_90 ?_
                refine lv_topl (fun x_46 ex_46 => ?_)
                refine lv_ldc2 hx hb hown hk67 dX13_scatter_91 ?_
                refine lv_lrem hx hb dX13_scatter_94 (by decide) ?_
                refine lv_topl (fun x_47 ex_47 => ?_)
                refine lv_lstore (lv' := [(6, .long x_47), (8, .int (nI i)), (0, .ref (b 0)), (1, .int (nI jx)), (2, .int (nI M)), (3, .int rg), (4, .int sd)]) hx hb dX13_scatter_95 hl (by decide) rfl (fun ls hl => ?_)
                refine lv_aload_n hx hb dX13_scatter_97 rfl (lv_at hl 2 rfl) ?_
                refine lv_iload_n hx hb dX13_scatter_98 rfl (lv_at hl 3 rfl) ?_
                refine lv_lload hx hb dX13_scatter_99 (lv_at hl 0 rfl) ?_
                refine lv_ldc2 hx hb hown hk69 dX13_scatter_101 ?_
                refine lv_ldiv hx hb dX13_scatter_104 (by decide) ?_
                refine lv_topl (fun x_48 ex_48 => ?_)
                refine lv_iload_n hx hb dX13_scatter_105 rfl (lv_at hl 5 rfl) ?_
                refine lv_i2l (v := rg.toInt64) hx hb dX13_scatter_106 rfl ?_
                refine lv_lrem hx hb dX13_scatter_107 (rg_ne hB_18) ?_
                refine lv_topl (fun x_49 ex_49 => ?_)
                refine lv_l2i (v := x_49.toInt32) hx hb dX13_scatter_108 rfl ?_
                refine lv_topi (fun x_50 ex_50 => ?_)
                refine lv_iconst (v := 0) hx hb dX13_scatter_109 (by decide) ?_
                have hPc := hP.sub (ws' := [((b 0), .inr (15, [.int (cd (TOKb (nI jx)) true true), .ref (b 1), .ref (b 2), .int (nI i), .ref (b 3), .ref (b 4), .ref (b 5), .null, .ref (b 6), .int 0, .int 0, .int 0, .int 0, .int 0])), ((b 3), .inl (g 4, 8, .inr (.inr (.inr (.inr fo))))), (q, .inl (g 0, i, .inl fr)), ((b 1), .inl (g 0, 200, .inl fk)), ((b 2), .inl (g 0, 200, .inl fm))]) [0, 1, 2, 3, 4] rfl
                have hDc := hD.sub (ws' := [((b 0), .inr (15, [.int (cd (TOKb (nI jx)) true true), .ref (b 1), .ref (b 2), .int (nI i), .ref (b 3), .ref (b 4), .ref (b 5), .null, .ref (b 6), .int 0, .int 0, .int 0, .int 0, .int 0])), ((b 3), .inl (g 4, 8, .inr (.inr (.inr (.inr fo))))), (q, .inl (g 0, i, .inl fr)), ((b 1), .inl (g 0, 200, .inl fk)), ((b 2), .inl (g 0, 200, .inl fm))]) [0, 1, 2, 3, 4] (by decide) rfl
                have hFc := va_free (wc := [((b 0), .inr (15, [.int (cd (TOKb (nI jx)) true true), .ref (b 1), .ref (b 2), .int (nI i), .ref (b 3), .ref (b 4), .ref (b 5), .null, .ref (b 6), .int 0, .int 0, .int 0, .int 0, .int 0])), ((b 3), .inl (g 4, 8, .inr (.inr (.inr (.inr fo))))), (q, .inl (g 0, i, .inl fr)), ((b 1), .inl (g 0, 200, .inl fk)), ((b 2), .inl (g 0, 200, .inl fm))]) hD hS hA [0, 1, 2, 3, 4] rfl
                refine va_callv (va_runV (As := [.int (nI jx), .int x_50, .int 0]) (rest := []) ⟨hx, hb, hml, hown, hts⟩ (c_X13_comes l dC dI g b r1 r2 jx q i fo fr fk fm x_50 0 (cd (TOKb (nI jx)) true true) hjx hfo (by omega) H.size) (cwV 3 hts gX13_scatter_X13_comes rfl rfl rfl (by decide +kernel) ⟨Nat.le_of_ble_eq_true rfl, Nat.le_of_ble_eq_true rfl⟩) ⟨PG_blind, va_recv hK hP (ci := 15) (q0 := 0) rfl rfl, PG_call hK hG hS hPc hDc hFc⟩ rfl rfl hl.1 rfl (lv_room (Nat.le_of_ble_eq_true rfl)) dX13_scatter_110 ⟨Nat.le_trans (show i + 1 ≤ 50 by omega) (Nat.le_of_ble_eq_true rfl), Nat.le_trans (show 101 * i + 101 ≤ 5050 by omega) (Nat.le_of_ble_eq_true rfl)⟩) hS (fun q _ h => hFc q h) hFc (fun u_51 t_51 H_51 L_51 ht_51 hvm_51 hw_51 hB_51 hz_51 hk_51 hS => ?_)
                obtain ⟨hP1, hD1⟩ := hB_51
                rw [ht_51] at hP1
                obtain ⟨hP, hD⟩ := va_join (wr := []) (w1 := [((b 0), .inr (15, [.int (cd (TOKb (nI jx)) true true), .ref (b 1), .ref (b 2), .int (nI (i + 1)), .ref (b 3), .ref (b 4), .ref (b 5), .null, .ref (b 6), .int 0, .int 0, .int 0, .int 0, .int 0])), ((b 3), .inl (g 4, 8, .inr (.inr (.inr (.inr (va_up fo (nI jx).toNatClampNeg (some (u_51.1)))))))), ((u_51.1), .inl (g 0, (i + 1), .inl (u_51.2))), ((b 1), .inl (g 0, 200, .inl (upd fk (nI i).toNatClampNeg x_50))), ((b 2), .inl (g 0, 200, .inl (upd fm (nI i).toNatClampNeg 0)))]) hP hD [0, 1, 2, 3, 4] [] rfl rfl (by decide) (by decide) hk_51 hFc hP1 hD1
                have hP : va_P (dC, dI) vwCl [((b 0), .inr (15, [.int (cd (TOKb (nI jx)) true true), .ref (b 1), .ref (b 2), .int (nI (i + 1)), .ref (b 3), .ref (b 4), .ref (b 5), .null, .ref (b 6), .int 0, .int 0, .int 0, .int 0, .int 0])), ((b 3), .inl (g 4, 8, .inr (.inr (.inr (.inr (va_up fo (nI jx).toNatClampNeg (some (u_51.1)))))))), ((u_51.1), .inl (g 0, (i + 1), .inl (u_51.2))), ((b 1), .inl (g 0, 200, .inl (upd fk (nI i).toNatClampNeg x_50))), ((b 2), .inl (g 0, 200, .inl (upd fm (nI i).toNatClampNeg 0)))] H_51 := hP
                have hD : va_D A [((b 0), .inr (15, [.int (cd (TOKb (nI jx)) true true), .ref (b 1), .ref (b 2), .int (nI (i + 1)), .ref (b 3), .ref (b 4), .ref (b 5), .null, .ref (b 6), .int 0, .int 0, .int 0, .int 0, .int 0])), ((b 3), .inl (g 4, 8, .inr (.inr (.inr (.inr (va_up fo (nI jx).toNatClampNeg (some (u_51.1)))))))), ((u_51.1), .inl (g 0, (i + 1), .inl (u_51.2))), ((b 1), .inl (g 0, 200, .inl (upd fk (nI i).toNatClampNeg x_50))), ((b 2), .inl (g 0, 200, .inl (upd fm (nI i).toNatClampNeg 0)))] := hD
                refine W.widen (k := i + 1) (n := 101 * i + 101) (by omega) (by omega) ?_
                refine lv_iinc (v := (nI (i + 1))) (lv' := [(8, .int (nI (i + 1))), (6, .long x_47), (0, .ref (b 0)), (1, .int (nI jx)), (2, .int (nI M)), (3, .int rg), (4, .int sd)]) hx hb dX13_scatter_113 hl (k := 1) rfl (nI_1 _) (by decide) rfl (fun ls hl => ?_)
                refine lv_goto (tgt := 75) hx hb dX13_scatter_116 (by decide) ?_
                refine W.widen (k := (i + 1)) (n := 101 * (i + 1)) (by omega) (by omega) ?_
                exact ih (i + 1) (by omega) (by omega) (upd fk (nI i).toNatClampNeg x_50) (upd fm (nI i).toNatClampNeg 0) (u_51.2) x_47 (va_up fo (nI jx).toNatClampNeg (some (u_51.1))) (u_51.1) _ _ (by rw [nI_clamp (show jx < 2 ^ 31 by omega)]; simp [va_up]) (hP.sub [0, 1, 2, 3, 4] rfl) (hD.sub [0, 1, 2, 3, 4] (by decide) rfl) hS _ (lv_sub hl [0, 2, 3, 4, 5, 6, 1] rfl)
          refine W.widen (k := 0) (n := 101 * 0) (by omega) (by omega) ?_
          exact LOOP75 (M + 1) 0 (Nat.zero_le _) (by omega) (fun _ => 0) (fun _ => 0) (fun _ => 0) sd.toInt64 (fun i => if i < 8 then some (r1 i) else none) (r1 jx) _ _ (show (if jx < 8 then some (r1 jx) else none) = some (r1 jx) from if_pos hjx) (hP.sub [0, 1, 2, 3, 4] rfl) (hD.sub [0, 1, 2, 3, 4] (by decide) rfl) hS _ (lv_sub hl [0, 3, 4, 5, 6, 7, 1] rfl)
