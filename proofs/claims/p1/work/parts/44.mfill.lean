theorem dX13_fill_0 : decode cX13_fill 0 = .ok (.iload_n 1, 1) := by decide +kernel
set_option maxRecDepth 20000 in
theorem ggX13_fill_X13_isTape : GoodIn wsX13_fill wsX13_isTape := goodIn_r _ [5, 6, 7, 4, 8] (by decide +kernel) (by decide +kernel)
set_option maxRecDepth 20000 in
theorem gX13_fill_X13_isTape : GoodIn wsX13_fill (va_wsS RX13 44 yX13_isTape wsX13_isTape) := goodIn_app (goodIn_of _ (by decide +kernel)) ggX13_fill_X13_isTape
theorem dX13_fill_1 : decode cX13_fill 1 = .ok (.invokestatic 44, 3) := by decide +kernel
theorem dX13_fill_4 : decode cX13_fill 4 = .ok (.istore 5, 2) := by decide +kernel
theorem dX13_fill_6 : decode cX13_fill 6 = .ok (.iload_n 2, 1) := by decide +kernel
set_option maxRecDepth 20000 in
theorem ggX13_fill_X13_isKey : GoodIn wsX13_fill wsX13_isKey := goodIn_r _ [11, 6, 7, 4, 8] (by decide +kernel) (by decide +kernel)
set_option maxRecDepth 20000 in
theorem gX13_fill_X13_isKey : GoodIn wsX13_fill (va_wsS RX13 48 yX13_isKey wsX13_isKey) := goodIn_app (goodIn_of _ (by decide +kernel)) ggX13_fill_X13_isKey
theorem dX13_fill_7 : decode cX13_fill 7 = .ok (.invokestatic 48, 3) := by decide +kernel
theorem dX13_fill_10 : decode cX13_fill 10 = .ok (.ifCond .eq 29, 3) := by decide +kernel
theorem dX13_fill_39 : decode cX13_fill 39 = .ok (.iconst 0, 1) := by decide +kernel
theorem dX13_fill_40 : decode cX13_fill 40 = .ok (.istore 6, 2) := by decide +kernel
theorem dX13_fill_42 : decode cX13_fill 42 = .ok (.aload_n 0, 1) := by decide +kernel
theorem dX13_fill_43 : decode cX13_fill 43 = .ok (.iload 5, 2) := by decide +kernel
theorem dX13_fill_45 : decode cX13_fill 45 = .ok (.iload 6, 2) := by decide +kernel
theorem dX13_fill_47 : decode cX13_fill 47 = .ok (.ifCond .eq 26, 3) := by decide +kernel
theorem dX13_fill_73 : decode cX13_fill 73 = .ok (.iconst 0, 1) := by decide +kernel
theorem dX13_fill_74 : decode cX13_fill 74 = .ok (.iload 5, 2) := by decide +kernel
theorem dX13_fill_76 : decode cX13_fill 76 = .ok (.ifCond .eq 17, 3) := by decide +kernel
theorem dX13_fill_93 : decode cX13_fill 93 = .ok (.iconst 0, 1) := by decide +kernel
set_option maxRecDepth 20000 in
theorem ggX13_fill_X13_passes : GoodIn wsX13_fill wsX13_passes := goodIn_r _ [20, 21, 29, 30, 31, 32, 33, 34, 35, 36, 37, 38, 39, 40, 41, 42] (by decide +kernel) (by decide +kernel)
set_option maxRecDepth 20000 in
theorem gX13_fill_X13_passes : GoodIn wsX13_fill (wsV RX13 55 RX13 yX13_passes wsX13_passes) := goodIn_app (goodIn_of _ (by decide +kernel)) ggX13_fill_X13_passes
theorem dX13_fill_94 : decode cX13_fill 94 = .ok (.invokevirtual 55, 3) := by decide +kernel
theorem dX13_fill_97 : decode cX13_fill 97 = .ok (.ifCond .ne 5, 3) := by decide +kernel
theorem dX13_fill_100 : decode cX13_fill 100 = .ok (.iconst 0, 1) := by decide +kernel
theorem dX13_fill_101 : decode cX13_fill 101 = .ok (.ireturn, 1) := by decide +kernel
theorem dX13_fill_79 : decode cX13_fill 79 = .ok (.aload_n 0, 1) := by decide +kernel
theorem dX13_fill_80 : decode cX13_fill 80 = .ok (.iload_n 1, 1) := by decide +kernel
theorem dX13_fill_81 : decode cX13_fill 81 = .ok (.iload 4, 2) := by decide +kernel
set_option maxRecDepth 20000 in
theorem ggX13_fill_X13_haveRoom : GoodIn wsX13_fill wsX13_haveRoom := goodIn_r _ [15, 16, 1, 29, 30, 31, 32, 33, 34, 35, 36, 37, 38, 39, 40, 41, 42] (by decide +kernel) (by decide +kernel)
set_option maxRecDepth 20000 in
theorem gX13_fill_X13_haveRoom : GoodIn wsX13_fill (wsV RX13 51 RX13 yX13_haveRoom wsX13_haveRoom) := goodIn_app (goodIn_of _ (by decide +kernel)) ggX13_fill_X13_haveRoom
theorem dX13_fill_83 : decode cX13_fill 83 = .ok (.invokevirtual 51, 3) := by decide +kernel
theorem dX13_fill_86 : decode cX13_fill 86 = .ok (.ifCond .eq 7, 3) := by decide +kernel
theorem dX13_fill_89 : decode cX13_fill 89 = .ok (.iconst 1, 1) := by decide +kernel
theorem dX13_fill_90 : decode cX13_fill 90 = .ok (.goto 4, 3) := by decide +kernel
theorem dX13_fill_13 : decode cX13_fill 13 = .ok (.iload_n 3, 1) := by decide +kernel
theorem dX13_fill_14 : decode cX13_fill 14 = .ok (.bipush (-50), 2) := by decide +kernel
theorem dX13_fill_16 : decode cX13_fill 16 = .ok (.bipush 50, 2) := by decide +kernel
set_option maxRecDepth 20000 in
theorem ggX13_fill_X13_in : GoodIn wsX13_fill wsX13_in := goodIn_r _ [8] (by decide +kernel) (by decide +kernel)
set_option maxRecDepth 20000 in
theorem gX13_fill_X13_in : GoodIn wsX13_fill (va_wsS RX13 7 yX13_in wsX13_in) := goodIn_app (goodIn_of _ (by decide +kernel)) ggX13_fill_X13_in
theorem dX13_fill_18 : decode cX13_fill 18 = .ok (.invokestatic 7, 3) := by decide +kernel
theorem dX13_fill_21 : decode cX13_fill 21 = .ok (.ifCond .eq 18, 3) := by decide +kernel
theorem dX13_fill_24 : decode cX13_fill 24 = .ok (.iload 4, 2) := by decide +kernel
theorem dX13_fill_26 : decode cX13_fill 26 = .ok (.iconst 0, 1) := by decide +kernel
theorem dX13_fill_27 : decode cX13_fill 27 = .ok (.bipush 50, 2) := by decide +kernel
theorem dX13_fill_29 : decode cX13_fill 29 = .ok (.invokestatic 7, 3) := by decide +kernel
theorem dX13_fill_32 : decode cX13_fill 32 = .ok (.ifCond .eq 7, 3) := by decide +kernel
theorem dX13_fill_35 : decode cX13_fill 35 = .ok (.iconst 1, 1) := by decide +kernel
theorem dX13_fill_36 : decode cX13_fill 36 = .ok (.goto 4, 3) := by decide +kernel
theorem dX13_fill_50 : decode cX13_fill 50 = .ok (.iload 4, 2) := by decide +kernel
theorem dX13_fill_52 : decode cX13_fill 52 = .ok (.ifCond .eq 17, 3) := by decide +kernel
theorem dX13_fill_69 : decode cX13_fill 69 = .ok (.iconst 1, 1) := by decide +kernel
theorem dX13_fill_70 : decode cX13_fill 70 = .ok (.goto 4, 3) := by decide +kernel
theorem dX13_fill_102 : decode cX13_fill 102 = .ok (.iconst 0, 1) := by decide +kernel
theorem dX13_fill_103 : decode cX13_fill 103 = .ok (.istore 7, 2) := by decide +kernel
theorem dX13_fill_105 : decode cX13_fill 105 = .ok (.iload 7, 2) := by decide +kernel
theorem dX13_fill_107 : decode cX13_fill 107 = .ok (.iload 4, 2) := by decide +kernel
theorem dX13_fill_109 : decode cX13_fill 109 = .ok (.if_icmp .ge 21, 3) := by decide +kernel
theorem dX13_fill_130 : decode cX13_fill 130 = .ok (.aload_n 0, 1) := by decide +kernel
theorem dX13_fill_131 : decode cX13_fill 131 = .ok (.getfield 29, 3) := by decide +kernel
theorem dX13_fill_134 : decode cX13_fill 134 = .ok (.iload_n 1, 1) := by decide +kernel
theorem dX13_fill_135 : decode cX13_fill 135 = .ok (.aaload, 1) := by decide +kernel
theorem dX13_fill_136 : decode cX13_fill 136 = .ok (.arraylength, 1) := by decide +kernel
theorem dX13_fill_137 : decode cX13_fill 137 = .ok (.ireturn, 1) := by decide +kernel
theorem dX13_fill_112 : decode cX13_fill 112 = .ok (.aload_n 0, 1) := by decide +kernel
theorem dX13_fill_113 : decode cX13_fill 113 = .ok (.iload_n 1, 1) := by decide +kernel
theorem dX13_fill_114 : decode cX13_fill 114 = .ok (.iload_n 2, 1) := by decide +kernel
theorem dX13_fill_115 : decode cX13_fill 115 = .ok (.iload 7, 2) := by decide +kernel
theorem dX13_fill_117 : decode cX13_fill 117 = .ok (.iload_n 3, 1) := by decide +kernel
theorem dX13_fill_118 : decode cX13_fill 118 = .ok (.imul, 1) := by decide +kernel
theorem dX13_fill_119 : decode cX13_fill 119 = .ok (.iadd, 1) := by decide +kernel
theorem dX13_fill_120 : decode cX13_fill 120 = .ok (.iconst 0, 1) := by decide +kernel
set_option maxRecDepth 20000 in
theorem ggX13_fill_X13_comes : GoodIn wsX13_fill wsX13_comes := goodIn_r _ [25, 26, 16, 27, 1, 28, 29, 30, 31, 32, 33, 34, 35, 36, 37, 38, 39, 40, 41, 42] (by decide +kernel) (by decide +kernel)
set_option maxRecDepth 20000 in
theorem gX13_fill_X13_comes : GoodIn wsX13_fill (wsV RX13 59 RX13 yX13_comes wsX13_comes) := goodIn_app (goodIn_of _ (by decide +kernel)) ggX13_fill_X13_comes
theorem dX13_fill_121 : decode cX13_fill 121 = .ok (.invokevirtual 59, 3) := by decide +kernel
theorem dX13_fill_124 : decode cX13_fill 124 = .ok (.iinc 7 1, 3) := by decide +kernel
theorem dX13_fill_127 : decode cX13_fill 127 = .ok (.goto (-22), 3) := by decide +kernel
theorem dX13_fill_55 : decode cX13_fill 55 = .ok (.iload_n 2, 1) := by decide +kernel
theorem dX13_fill_56 : decode cX13_fill 56 = .ok (.iload 4, 2) := by decide +kernel
theorem dX13_fill_58 : decode cX13_fill 58 = .ok (.iconst 1, 1) := by decide +kernel
theorem dX13_fill_59 : decode cX13_fill 59 = .ok (.isub, 1) := by decide +kernel
theorem dX13_fill_60 : decode cX13_fill 60 = .ok (.iload_n 3, 1) := by decide +kernel
theorem dX13_fill_61 : decode cX13_fill 61 = .ok (.imul, 1) := by decide +kernel
theorem dX13_fill_62 : decode cX13_fill 62 = .ok (.iadd, 1) := by decide +kernel
theorem dX13_fill_63 : decode cX13_fill 63 = .ok (.invokestatic 48, 3) := by decide +kernel
theorem dX13_fill_66 : decode cX13_fill 66 = .ok (.ifCond .eq 7, 3) := by decide +kernel
set_option maxHeartbeats 4000000 in
set_option maxRecDepth 100000 in
theorem c_X13_fill (l : Launch) (dC : Nat → ClassId) (dI : Nat → Nat → Nat) (g : Nat → ClassId) (b : Nat → Nat) (r1 : Nat → Nat) (r2 : Nat → Nat) (x : Int32) (f : Int32) (sp : Int32) (mn : Int32) (th : Int32) (sz : Nat) : Met l yX13_fill wsX13_fill ({ frames := 2, cells := 50, slots := 5050, locals := 42 }) (va_Pc [.ref (b 0), .int x, .int f, .int sp, .int mn] (PG (dC, dI) g (modW b r1 r2 g th) sz)) (va_Qi (fun (r : Int32) (_ : Unit) => (cd (TOKb x) (rngb f (-999) 999 && rngb sp (-50) 50 && rngb mn 0 50 && (decide (mn = 0) || rngb (f + (sp * (mn - 1))) (-999) 999)) true) = 0 → r = mn) (fun (_ : Unit) t => ∃ fs : List Value, va_P (dC, dI) vwCl [(b 0, .inr (15, .int (cd (TOKb x) (rngb f (-999) 999 && rngb sp (-50) 50 && rngb mn 0 50 && (decide (mn = 0) || rngb (f + (sp * (mn - 1))) (-999) 999)) true) :: fs))] t.heap) (va_A (modW b r1 r2 g th) sz)) 50 5050 (va_A (modW b r1 r2 g th) sz) := by
  refine Met.ofW (cc := cX13_fill) (maxL := 8) (ret := (some .int)) (by decide) rfl ?_
  intro p e s m args below meth c s₁ B hml hv
  obtain ⟨rfl, hsz, hP, hK, hD0, hG⟩ := hv
  have hx := B.exec
  have hb := B.bytes
  have hr := B.returns
  have hts := atoms_spec (ws := wsX13_fill) B.pre
  have hown : s.vm.findClass RX13 = some m.cls := findClass_of_methodNamed B.named
  have hlocks := B.notSynchronized
  subst hsz
  have hD := hD0.self (sz := s.heap.size)
  generalize hAe : va_A (modW b r1 r2 g th) s.heap.size = A at hD hG ⊢
  have hA : ∀ q : Nat, s.heap.size ≤ q → A q := fun q h => by rw [← hAe]; exact Or.inr h
  have hS : va_S A s.heap s.heap [] := va_S.rf
  have hl := lv_entry ([.ref (b 0), .int x, .int f, .int sp, .int mn]) (n := 8) (Nat.le_of_ble_eq_true rfl)
  rw [lg_entry_eq]
  generalize (lg_sl ([.ref (b 0), .int x, .int f, .int sp, .int mn]) ++ List.replicate (8 - (lg_sl ([.ref (b 0), .int x, .int f, .int sp, .int mn])).length) Slot.unset).toArray = ls at hl ⊢
  have hl : lv_has ls 8 [(0, .ref (b 0)), (1, .int x), (2, .int f), (3, .int sp), (4, .int mn)] := hl
  have hf29 := hts (Cond.fieldLink RX13 29 "RunmergeOfficeModel" "tapes" "[[I") (by decide +kernel)
  have hiX13 : ∀ w ∈ u_ws RX13 TX13 14, w ∈ wsX13_fill := by decide +kernel
  refine lv_iload_n hx hb dX13_fill_0 rfl (lv_at hl 1 rfl) ?_
  refine va_calli (va_runS (As := [.int x]) (rest := []) ⟨hx, hb, hml, hown, hts⟩ (c_X13_isTape l dC dI g (modW b r1 r2 g th) x   s.heap.size) (va_cwS 1 hts gX13_fill_X13_isTape rfl rfl rfl (by decide +kernel) ⟨Nat.le_of_ble_eq_true rfl, Nat.le_of_ble_eq_true rfl⟩) ⟨PG_blind, PG_call hK hG hS hP hD (A_all hD hA hS.1)⟩ rfl rfl hl.1 rfl (lv_room (Nat.le_of_ble_eq_true rfl)) dX13_fill_1 ⟨Nat.le_of_ble_eq_true rfl, Nat.le_of_ble_eq_true rfl⟩) hS (fun q _ h => (A_all hD hA hS.1) q h) (A_all hD hA hS.1) (fun r_1 u_1 t_1 H_1 L_1 ht_1 hvm_1 hw_1 hB_1 hz_1 hk_1 hS => ?_)
  replace hB_1 := (show va_P (dC, dI) vwCl (modW b r1 r2 g th) t_1.heap from hB_1)
  rw [ht_1] at hB_1
  have hP := hB_1
  obtain rfl : r_1 = b2i (TOKb x) := hw_1
  refine lv_istore (lv' := [(5, .int (b2i (TOKb x))), (0, .ref (b 0)), (1, .int x), (2, .int f), (3, .int sp), (4, .int mn)]) hx hb dX13_fill_4 hl (by decide) rfl (fun ls hl => ?_)
  refine lv_iload_n hx hb dX13_fill_6 rfl (lv_at hl 3 rfl) ?_
  refine va_calli (va_runS (As := [.int f]) (rest := []) ⟨hx, hb, hml, hown, hts⟩ (c_X13_isKey l dC dI g (modW b r1 r2 g th) f   H_1.size) (va_cwS 1 hts gX13_fill_X13_isKey rfl rfl rfl (by decide +kernel) ⟨Nat.le_of_ble_eq_true rfl, Nat.le_of_ble_eq_true rfl⟩) ⟨PG_blind, PG_call hK hG hS hP hD (A_all hD hA hS.1)⟩ rfl rfl hl.1 rfl (lv_room (Nat.le_of_ble_eq_true rfl)) dX13_fill_7 ⟨Nat.le_of_ble_eq_true rfl, Nat.le_of_ble_eq_true rfl⟩) hS (fun q _ h => (A_all hD hA hS.1) q h) (A_all hD hA hS.1) (fun r_2 u_2 t_2 H_2 L_2 ht_2 hvm_2 hw_2 hB_2 hz_2 hk_2 hS => ?_)
  replace hB_2 := (show va_P (dC, dI) vwCl (modW b r1 r2 g th) t_2.heap from hB_2)
  rw [ht_2] at hB_2
  have hP := hB_2
  obtain rfl : r_2 = b2i (rngb f (-999) 999) := hw_2
  refine lv_if_eq (tgt := 39) hx hb dX13_fill_10 (by decide) (fun c_3 => ?_) (fun c_3 => ?_)
  · have hB_4 : (rngb f (-999) 999) = false := b2i_0 c_3
    refine lv_iconst (v := 0) hx hb dX13_fill_39 (by decide) ?_
    refine lv_istore (lv' := [(6, .int 0), (5, .int (b2i (TOKb x))), (0, .ref (b 0)), (1, .int x), (2, .int f), (3, .int sp), (4, .int mn)]) hx hb dX13_fill_40 hl (by decide) rfl (fun ls hl => ?_)
    refine lv_aload_n hx hb dX13_fill_42 rfl (lv_at hl 2 rfl) ?_
    refine lv_iload hx hb dX13_fill_43 (lv_at hl 1 rfl) ?_
    refine lv_iload hx hb dX13_fill_45 (lv_at hl 0 rfl) ?_
    refine lv_if_eq (tgt := 73) hx hb dX13_fill_47 (by decide) (fun c_5 => ?_) (fun c_5 => absurd (by decide) c_5)
    refine lv_iconst (v := 0) hx hb dX13_fill_73 (by decide) ?_
    refine lv_iload hx hb dX13_fill_74 (lv_at hl 1 rfl) ?_
    refine lv_if_eq (tgt := 93) hx hb dX13_fill_76 (by decide) (fun c_6 => ?_) (fun c_6 => ?_)
    · have hB_7 : (TOKb x) = false := b2i_0 c_6
      refine lv_iconst (v := 0) hx hb dX13_fill_93 (by decide) ?_
      refine va_calli (va_runV (As := [.int (b2i (TOKb x)), .int 0, .int 0]) (rest := []) ⟨hx, hb, hml, hown, hts⟩ (c_X13_passes l dC dI g b r1 r2 th (TOKb x) false false  H_2.size) (cwV 3 hts gX13_fill_X13_passes rfl rfl rfl (by decide +kernel) ⟨Nat.le_of_ble_eq_true rfl, Nat.le_of_ble_eq_true rfl⟩) ⟨PG_blind, va_recv hK hP (ci := 15) (q0 := 0) rfl (m_0 b r1 r2 g th), PG_call hK hG hS hP hD (A_all hD hA hS.1)⟩ rfl rfl hl.1 rfl (lv_room (Nat.le_of_ble_eq_true rfl)) dX13_fill_94 ⟨Nat.le_of_ble_eq_true rfl, Nat.le_of_ble_eq_true rfl⟩) hS (fun q _ h => (A_all hD hA hS.1) q h) (A_all hD hA hS.1) (fun r_8 u_8 t_8 H_8 L_8 ht_8 hvm_8 hw_8 hB_8 hz_8 hk_8 hS => ?_)
      rw [ht_8] at hB_8
      have hP : va_P (dC, dI) vwCl (modW b r1 r2 g (cd (TOKb x) false false)) H_8 := hB_8
      have hD : va_D A (modW b r1 r2 g (cd (TOKb x) false false)) := va_D_th hD
      obtain rfl : r_8 = 0 := hw_8.trans (by simp [b2i, hB_7])
      refine lv_if_ne (tgt := 102) hx hb dX13_fill_97 (by decide) (fun c_9 => absurd (by decide) c_9) (fun c_9 => ?_)
      refine lv_iconst (v := 0) hx hb dX13_fill_100 (by decide) ?_
      refine W.widen (k := 50) (n := 5050) (by omega) (by omega) ?_
      have hcd : (cd (TOKb x) false false) = (cd (TOKb x) (rngb f (-999) 999 && rngb sp (-50) 50 && rngb mn 0 50 && (decide (mn = 0) || rngb (f + (sp * (mn - 1))) (-999) 999)) true) := by simp [cd, hB_4, hB_7]
      have hP8 := hP.sub (ws' := [((b 0), .inr (15, [.int (cd (TOKb x) false false), .ref (b 1), .ref (b 2), .int 0, .ref (b 3), .ref (b 4), .ref (b 5), .null, .ref (b 6), .int 0, .int 0, .int 0, .int 0, .int 0]))]) [0] rfl
      rw [hcd] at hP8
      exact W.iret (v := 0) hx hb hr (fun t ht hW => ⟨⟨0, (), rfl, (fun h => by first | rfl | (exact absurd (cd_0.mp h) (by simp [hB_4, hB_7]))), ⟨[.ref (b 1), .ref (b 2), .int 0, .ref (b 3), .ref (b 4), .ref (b 5), .null, .ref (b 6), .int 0, .int 0, .int 0, .int 0, .int 0], P_at ht hP8⟩⟩, hS.F ht⟩) hS.2.2 dX13_fill_101
    · have hB_7 : (TOKb x) = true := b2i_1 c_6
      obtain ⟨jx, hjx, rfl⟩ := TOK_ex hB_7
      refine lv_aload_n hx hb dX13_fill_79 rfl (lv_at hl 2 rfl) ?_
      refine lv_iload_n hx hb dX13_fill_80 rfl (lv_at hl 3 rfl) ?_
      refine lv_iload hx hb dX13_fill_81 (lv_at hl 6 rfl) ?_
      refine va_calli (va_runV (As := [.int (nI jx), .int mn]) (rest := [.int 0, .int (b2i (TOKb (nI jx))), .ref (b 0)]) ⟨hx, hb, hml, hown, hts⟩ (c_X13_haveRoom l dC dI g b r1 r2 jx mn th hjx H_2.size) (cwV 2 hts gX13_fill_X13_haveRoom rfl rfl rfl (by decide +kernel) ⟨Nat.le_of_ble_eq_true rfl, Nat.le_of_ble_eq_true rfl⟩) ⟨PG_blind, va_recv hK hP (ci := 15) (q0 := 0) rfl (m_0 b r1 r2 g th), PG_call hK hG hS hP hD (A_all hD hA hS.1)⟩ rfl rfl hl.1 rfl (lv_room (Nat.le_of_ble_eq_true rfl)) dX13_fill_83 ⟨Nat.le_of_ble_eq_true rfl, Nat.le_of_ble_eq_true rfl⟩) hS (fun q _ h => (A_all hD hA hS.1) q h) (A_all hD hA hS.1) (fun r_10 u_10 t_10 H_10 L_10 ht_10 hvm_10 hw_10 hB_10 hz_10 hk_10 hS => ?_)
      replace hB_10 := (show va_P (dC, dI) vwCl (modW b r1 r2 g th) t_10.heap from hB_10)
      rw [ht_10] at hB_10
      have hP := hB_10
      obtain rfl : r_10 = b2i (hrm mn) := hw_10
      refine lv_if_eq (tgt := 93) hx hb dX13_fill_86 (by decide) (fun c_11 => ?_) (fun c_11 => ?_)
      · have hB_12 : (hrm mn) = false := b2i_0 c_11
        refine lv_iconst (v := 0) hx hb dX13_fill_93 (by decide) ?_
        refine va_calli (va_runV (As := [.int (b2i (TOKb (nI jx))), .int 0, .int 0]) (rest := []) ⟨hx, hb, hml, hown, hts⟩ (c_X13_passes l dC dI g b r1 r2 th (TOKb (nI jx)) false false  H_10.size) (cwV 3 hts gX13_fill_X13_passes rfl rfl rfl (by decide +kernel) ⟨Nat.le_of_ble_eq_true rfl, Nat.le_of_ble_eq_true rfl⟩) ⟨PG_blind, va_recv hK hP (ci := 15) (q0 := 0) rfl (m_0 b r1 r2 g th), PG_call hK hG hS hP hD (A_all hD hA hS.1)⟩ rfl rfl hl.1 rfl (lv_room (Nat.le_of_ble_eq_true rfl)) dX13_fill_94 ⟨Nat.le_of_ble_eq_true rfl, Nat.le_of_ble_eq_true rfl⟩) hS (fun q _ h => (A_all hD hA hS.1) q h) (A_all hD hA hS.1) (fun r_13 u_13 t_13 H_13 L_13 ht_13 hvm_13 hw_13 hB_13 hz_13 hk_13 hS => ?_)
        rw [ht_13] at hB_13
        have hP : va_P (dC, dI) vwCl (modW b r1 r2 g (cd (TOKb (nI jx)) false false)) H_13 := hB_13
        have hD : va_D A (modW b r1 r2 g (cd (TOKb (nI jx)) false false)) := va_D_th hD
        obtain rfl : r_13 = 0 := hw_13.trans (by simp [b2i, (TOK_j hjx rfl)])
        refine lv_if_ne (tgt := 102) hx hb dX13_fill_97 (by decide) (fun c_14 => absurd (by decide) c_14) (fun c_14 => ?_)
        refine lv_iconst (v := 0) hx hb dX13_fill_100 (by decide) ?_
        refine W.widen (k := 50) (n := 5050) (by omega) (by omega) ?_
        have hcd : (cd (TOKb (nI jx)) false false) = (cd (TOKb (nI jx)) (rngb f (-999) 999 && rngb sp (-50) 50 && rngb mn 0 50 && (decide (mn = 0) || rngb (f + (sp * (mn - 1))) (-999) 999)) true) := by simp [cd, hB_4, (TOK_j hjx rfl), hB_12]
        have hP8 := hP.sub (ws' := [((b 0), .inr (15, [.int (cd (TOKb (nI jx)) false false), .ref (b 1), .ref (b 2), .int 0, .ref (b 3), .ref (b 4), .ref (b 5), .null, .ref (b 6), .int 0, .int 0, .int 0, .int 0, .int 0]))]) [0] rfl
        rw [hcd] at hP8
        exact W.iret (v := 0) hx hb hr (fun t ht hW => ⟨⟨0, (), rfl, (fun h => by first | rfl | (exact absurd (cd_0.mp h) (by simp [hB_4, (TOK_j hjx rfl), hB_12]))), ⟨[.ref (b 1), .ref (b 2), .int 0, .ref (b 3), .ref (b 4), .ref (b 5), .null, .ref (b 6), .int 0, .int 0, .int 0, .int 0, .int 0], P_at ht hP8⟩⟩, hS.F ht⟩) hS.2.2 dX13_fill_101
      · have hB_12 : (hrm mn) = true := b2i_1 c_11
        refine lv_iconst (v := 1) hx hb dX13_fill_89 (by decide) ?_
        refine lv_goto (tgt := 94) hx hb dX13_fill_90 (by decide) ?_
        refine va_calli (va_runV (As := [.int (b2i (TOKb (nI jx))), .int 0, .int 1]) (rest := []) ⟨hx, hb, hml, hown, hts⟩ (c_X13_passes l dC dI g b r1 r2 th (TOKb (nI jx)) false true  H_10.size) (cwV 3 hts gX13_fill_X13_passes rfl rfl rfl (by decide +kernel) ⟨Nat.le_of_ble_eq_true rfl, Nat.le_of_ble_eq_true rfl⟩) ⟨PG_blind, va_recv hK hP (ci := 15) (q0 := 0) rfl (m_0 b r1 r2 g th), PG_call hK hG hS hP hD (A_all hD hA hS.1)⟩ rfl rfl hl.1 rfl (lv_room (Nat.le_of_ble_eq_true rfl)) dX13_fill_94 ⟨Nat.le_of_ble_eq_true rfl, Nat.le_of_ble_eq_true rfl⟩) hS (fun q _ h => (A_all hD hA hS.1) q h) (A_all hD hA hS.1) (fun r_15 u_15 t_15 H_15 L_15 ht_15 hvm_15 hw_15 hB_15 hz_15 hk_15 hS => ?_)
        rw [ht_15] at hB_15
        have hP : va_P (dC, dI) vwCl (modW b r1 r2 g (cd (TOKb (nI jx)) false true)) H_15 := hB_15
        have hD : va_D A (modW b r1 r2 g (cd (TOKb (nI jx)) false true)) := va_D_th hD
        obtain rfl : r_15 = 0 := hw_15.trans (by simp [b2i, (TOK_j hjx rfl)])
        refine lv_if_ne (tgt := 102) hx hb dX13_fill_97 (by decide) (fun c_16 => absurd (by decide) c_16) (fun c_16 => ?_)
        refine lv_iconst (v := 0) hx hb dX13_fill_100 (by decide) ?_
        refine W.widen (k := 50) (n := 5050) (by omega) (by omega) ?_
        have hcd : (cd (TOKb (nI jx)) false true) = (cd (TOKb (nI jx)) (rngb f (-999) 999 && rngb sp (-50) 50 && rngb mn 0 50 && (decide (mn = 0) || rngb (f + (sp * (mn - 1))) (-999) 999)) true) := by simp [cd, hB_4, (TOK_j hjx rfl), hB_12]
        have hP8 := hP.sub (ws' := [((b 0), .inr (15, [.int (cd (TOKb (nI jx)) false true), .ref (b 1), .ref (b 2), .int 0, .ref (b 3), .ref (b 4), .ref (b 5), .null, .ref (b 6), .int 0, .int 0, .int 0, .int 0, .int 0]))]) [0] rfl
        rw [hcd] at hP8
        exact W.iret (v := 0) hx hb hr (fun t ht hW => ⟨⟨0, (), rfl, (fun h => by first | rfl | (exact absurd (cd_0.mp h) (by simp [hB_4, (TOK_j hjx rfl), hB_12]))), ⟨[.ref (b 1), .ref (b 2), .int 0, .ref (b 3), .ref (b 4), .ref (b 5), .null, .ref (b 6), .int 0, .int 0, .int 0, .int 0, .int 0], P_at ht hP8⟩⟩, hS.F ht⟩) hS.2.2 dX13_fill_101
  · have hB_4 : (rngb f (-999) 999) = true := b2i_1 c_3
    refine lv_iload_n hx hb dX13_fill_13 rfl (lv_at hl 4 rfl) ?_
    refine lv_bipush (v := (-50)) hx hb dX13_fill_14 (by decide) ?_
    refine lv_bipush (v := 50) hx hb dX13_fill_16 (by decide) ?_
    refine va_calli (va_runS (As := [.int sp, .int (-50), .int 50]) (rest := []) ⟨hx, hb, hml, hown, hts⟩ (c_X13_in l dC dI g (modW b r1 r2 g th) sp (-50) 50   H_2.size) (va_cwS 3 hts gX13_fill_X13_in rfl rfl rfl (by decide +kernel) ⟨Nat.le_of_ble_eq_true rfl, Nat.le_of_ble_eq_true rfl⟩) ⟨PG_blind, PG_call hK hG hS hP hD (A_all hD hA hS.1)⟩ rfl rfl hl.1 rfl (lv_room (Nat.le_of_ble_eq_true rfl)) dX13_fill_18 ⟨Nat.le_of_ble_eq_true rfl, Nat.le_of_ble_eq_true rfl⟩) hS (fun q _ h => (A_all hD hA hS.1) q h) (A_all hD hA hS.1) (fun r_17 u_17 t_17 H_17 L_17 ht_17 hvm_17 hw_17 hB_17 hz_17 hk_17 hS => ?_)
    replace hB_17 := (show va_P (dC, dI) vwCl (modW b r1 r2 g th) t_17.heap from hB_17)
    rw [ht_17] at hB_17
    have hP := hB_17
    obtain rfl : r_17 = b2i (rngb sp (-50) 50) := hw_17
    refine lv_if_eq (tgt := 39) hx hb dX13_fill_21 (by decide) (fun c_18 => ?_) (fun c_18 => ?_)
    · have hB_19 : (rngb sp (-50) 50) = false := b2i_0 c_18
      refine lv_iconst (v := 0) hx hb dX13_fill_39 (by decide) ?_
      refine lv_istore (lv' := [(6, .int 0), (5, .int (b2i (TOKb x))), (0, .ref (b 0)), (1, .int x), (2, .int f), (3, .int sp), (4, .int mn)]) hx hb dX13_fill_40 hl (by decide) rfl (fun ls hl => ?_)
      refine lv_aload_n hx hb dX13_fill_42 rfl (lv_at hl 2 rfl) ?_
      refine lv_iload hx hb dX13_fill_43 (lv_at hl 1 rfl) ?_
      refine lv_iload hx hb dX13_fill_45 (lv_at hl 0 rfl) ?_
      refine lv_if_eq (tgt := 73) hx hb dX13_fill_47 (by decide) (fun c_20 => ?_) (fun c_20 => absurd (by decide) c_20)
      refine lv_iconst (v := 0) hx hb dX13_fill_73 (by decide) ?_
      refine lv_iload hx hb dX13_fill_74 (lv_at hl 1 rfl) ?_
      refine lv_if_eq (tgt := 93) hx hb dX13_fill_76 (by decide) (fun c_21 => ?_) (fun c_21 => ?_)
      · have hB_22 : (TOKb x) = false := b2i_0 c_21
        refine lv_iconst (v := 0) hx hb dX13_fill_93 (by decide) ?_
        refine va_calli (va_runV (As := [.int (b2i (TOKb x)), .int 0, .int 0]) (rest := []) ⟨hx, hb, hml, hown, hts⟩ (c_X13_passes l dC dI g b r1 r2 th (TOKb x) false false  H_17.size) (cwV 3 hts gX13_fill_X13_passes rfl rfl rfl (by decide +kernel) ⟨Nat.le_of_ble_eq_true rfl, Nat.le_of_ble_eq_true rfl⟩) ⟨PG_blind, va_recv hK hP (ci := 15) (q0 := 0) rfl (m_0 b r1 r2 g th), PG_call hK hG hS hP hD (A_all hD hA hS.1)⟩ rfl rfl hl.1 rfl (lv_room (Nat.le_of_ble_eq_true rfl)) dX13_fill_94 ⟨Nat.le_of_ble_eq_true rfl, Nat.le_of_ble_eq_true rfl⟩) hS (fun q _ h => (A_all hD hA hS.1) q h) (A_all hD hA hS.1) (fun r_23 u_23 t_23 H_23 L_23 ht_23 hvm_23 hw_23 hB_23 hz_23 hk_23 hS => ?_)
        rw [ht_23] at hB_23
        have hP : va_P (dC, dI) vwCl (modW b r1 r2 g (cd (TOKb x) false false)) H_23 := hB_23
        have hD : va_D A (modW b r1 r2 g (cd (TOKb x) false false)) := va_D_th hD
        obtain rfl : r_23 = 0 := hw_23.trans (by simp [b2i, hB_22])
        refine lv_if_ne (tgt := 102) hx hb dX13_fill_97 (by decide) (fun c_24 => absurd (by decide) c_24) (fun c_24 => ?_)
        refine lv_iconst (v := 0) hx hb dX13_fill_100 (by decide) ?_
        refine W.widen (k := 50) (n := 5050) (by omega) (by omega) ?_
        have hcd : (cd (TOKb x) false false) = (cd (TOKb x) (rngb f (-999) 999 && rngb sp (-50) 50 && rngb mn 0 50 && (decide (mn = 0) || rngb (f + (sp * (mn - 1))) (-999) 999)) true) := by simp [cd, hB_4, hB_19, hB_22]
        have hP8 := hP.sub (ws' := [((b 0), .inr (15, [.int (cd (TOKb x) false false), .ref (b 1), .ref (b 2), .int 0, .ref (b 3), .ref (b 4), .ref (b 5), .null, .ref (b 6), .int 0, .int 0, .int 0, .int 0, .int 0]))]) [0] rfl
        rw [hcd] at hP8
        exact W.iret (v := 0) hx hb hr (fun t ht hW => ⟨⟨0, (), rfl, (fun h => by first | rfl | (exact absurd (cd_0.mp h) (by simp [hB_4, hB_19, hB_22]))), ⟨[.ref (b 1), .ref (b 2), .int 0, .ref (b 3), .ref (b 4), .ref (b 5), .null, .ref (b 6), .int 0, .int 0, .int 0, .int 0, .int 0], P_at ht hP8⟩⟩, hS.F ht⟩) hS.2.2 dX13_fill_101
      · have hB_22 : (TOKb x) = true := b2i_1 c_21
        obtain ⟨jx, hjx, rfl⟩ := TOK_ex hB_22
        refine lv_aload_n hx hb dX13_fill_79 rfl (lv_at hl 2 rfl) ?_
        refine lv_iload_n hx hb dX13_fill_80 rfl (lv_at hl 3 rfl) ?_
        refine lv_iload hx hb dX13_fill_81 (lv_at hl 6 rfl) ?_
        refine va_calli (va_runV (As := [.int (nI jx), .int mn]) (rest := [.int 0, .int (b2i (TOKb (nI jx))), .ref (b 0)]) ⟨hx, hb, hml, hown, hts⟩ (c_X13_haveRoom l dC dI g b r1 r2 jx mn th hjx H_17.size) (cwV 2 hts gX13_fill_X13_haveRoom rfl rfl rfl (by decide +kernel) ⟨Nat.le_of_ble_eq_true rfl, Nat.le_of_ble_eq_true rfl⟩) ⟨PG_blind, va_recv hK hP (ci := 15) (q0 := 0) rfl (m_0 b r1 r2 g th), PG_call hK hG hS hP hD (A_all hD hA hS.1)⟩ rfl rfl hl.1 rfl (lv_room (Nat.le_of_ble_eq_true rfl)) dX13_fill_83 ⟨Nat.le_of_ble_eq_true rfl, Nat.le_of_ble_eq_true rfl⟩) hS (fun q _ h => (A_all hD hA hS.1) q h) (A_all hD hA hS.1) (fun r_25 u_25 t_25 H_25 L_25 ht_25 hvm_25 hw_25 hB_25 hz_25 hk_25 hS => ?_)
        replace hB_25 := (show va_P (dC, dI) vwCl (modW b r1 r2 g th) t_25.heap from hB_25)
        rw [ht_25] at hB_25
        have hP := hB_25
        obtain rfl : r_25 = b2i (hrm mn) := hw_25
        refine lv_if_eq (tgt := 93) hx hb dX13_fill_86 (by decide) (fun c_26 => ?_) (fun c_26 => ?_)
        · have hB_27 : (hrm mn) = false := b2i_0 c_26
          refine lv_iconst (v := 0) hx hb dX13_fill_93 (by decide) ?_
          refine va_calli (va_runV (As := [.int (b2i (TOKb (nI jx))), .int 0, .int 0]) (rest := []) ⟨hx, hb, hml, hown, hts⟩ (c_X13_passes l dC dI g b r1 r2 th (TOKb (nI jx)) false false  H_25.size) (cwV 3 hts gX13_fill_X13_passes rfl rfl rfl (by decide +kernel) ⟨Nat.le_of_ble_eq_true rfl, Nat.le_of_ble_eq_true rfl⟩) ⟨PG_blind, va_recv hK hP (ci := 15) (q0 := 0) rfl (m_0 b r1 r2 g th), PG_call hK hG hS hP hD (A_all hD hA hS.1)⟩ rfl rfl hl.1 rfl (lv_room (Nat.le_of_ble_eq_true rfl)) dX13_fill_94 ⟨Nat.le_of_ble_eq_true rfl, Nat.le_of_ble_eq_true rfl⟩) hS (fun q _ h => (A_all hD hA hS.1) q h) (A_all hD hA hS.1) (fun r_28 u_28 t_28 H_28 L_28 ht_28 hvm_28 hw_28 hB_28 hz_28 hk_28 hS => ?_)
          rw [ht_28] at hB_28
          have hP : va_P (dC, dI) vwCl (modW b r1 r2 g (cd (TOKb (nI jx)) false false)) H_28 := hB_28
          have hD : va_D A (modW b r1 r2 g (cd (TOKb (nI jx)) false false)) := va_D_th hD
          obtain rfl : r_28 = 0 := hw_28.trans (by simp [b2i, (TOK_j hjx rfl)])
          refine lv_if_ne (tgt := 102) hx hb dX13_fill_97 (by decide) (fun c_29 => absurd (by decide) c_29) (fun c_29 => ?_)
          refine lv_iconst (v := 0) hx hb dX13_fill_100 (by decide) ?_
          refine W.widen (k := 50) (n := 5050) (by omega) (by omega) ?_
          have hcd : (cd (TOKb (nI jx)) false false) = (cd (TOKb (nI jx)) (rngb f (-999) 999 && rngb sp (-50) 50 && rngb mn 0 50 && (decide (mn = 0) || rngb (f + (sp * (mn - 1))) (-999) 999)) true) := by simp [cd, hB_4, hB_19, (TOK_j hjx rfl), hB_27]
          have hP8 := hP.sub (ws' := [((b 0), .inr (15, [.int (cd (TOKb (nI jx)) false false), .ref (b 1), .ref (b 2), .int 0, .ref (b 3), .ref (b 4), .ref (b 5), .null, .ref (b 6), .int 0, .int 0, .int 0, .int 0, .int 0]))]) [0] rfl
          rw [hcd] at hP8
          exact W.iret (v := 0) hx hb hr (fun t ht hW => ⟨⟨0, (), rfl, (fun h => by first | rfl | (exact absurd (cd_0.mp h) (by simp [hB_4, hB_19, (TOK_j hjx rfl), hB_27]))), ⟨[.ref (b 1), .ref (b 2), .int 0, .ref (b 3), .ref (b 4), .ref (b 5), .null, .ref (b 6), .int 0, .int 0, .int 0, .int 0, .int 0], P_at ht hP8⟩⟩, hS.F ht⟩) hS.2.2 dX13_fill_101
        · have hB_27 : (hrm mn) = true := b2i_1 c_26
          refine lv_iconst (v := 1) hx hb dX13_fill_89 (by decide) ?_
          refine lv_goto (tgt := 94) hx hb dX13_fill_90 (by decide) ?_
          refine va_calli (va_runV (As := [.int (b2i (TOKb (nI jx))), .int 0, .int 1]) (rest := []) ⟨hx, hb, hml, hown, hts⟩ (c_X13_passes l dC dI g b r1 r2 th (TOKb (nI jx)) false true  H_25.size) (cwV 3 hts gX13_fill_X13_passes rfl rfl rfl (by decide +kernel) ⟨Nat.le_of_ble_eq_true rfl, Nat.le_of_ble_eq_true rfl⟩) ⟨PG_blind, va_recv hK hP (ci := 15) (q0 := 0) rfl (m_0 b r1 r2 g th), PG_call hK hG hS hP hD (A_all hD hA hS.1)⟩ rfl rfl hl.1 rfl (lv_room (Nat.le_of_ble_eq_true rfl)) dX13_fill_94 ⟨Nat.le_of_ble_eq_true rfl, Nat.le_of_ble_eq_true rfl⟩) hS (fun q _ h => (A_all hD hA hS.1) q h) (A_all hD hA hS.1) (fun r_30 u_30 t_30 H_30 L_30 ht_30 hvm_30 hw_30 hB_30 hz_30 hk_30 hS => ?_)
          rw [ht_30] at hB_30
          have hP : va_P (dC, dI) vwCl (modW b r1 r2 g (cd (TOKb (nI jx)) false true)) H_30 := hB_30
          have hD : va_D A (modW b r1 r2 g (cd (TOKb (nI jx)) false true)) := va_D_th hD
          obtain rfl : r_30 = 0 := hw_30.trans (by simp [b2i, (TOK_j hjx rfl)])
          refine lv_if_ne (tgt := 102) hx hb dX13_fill_97 (by decide) (fun c_31 => absurd (by decide) c_31) (fun c_31 => ?_)
          refine lv_iconst (v := 0) hx hb dX13_fill_100 (by decide) ?_
          refine W.widen (k := 50) (n := 5050) (by omega) (by omega) ?_
          have hcd : (cd (TOKb (nI jx)) false true) = (cd (TOKb (nI jx)) (rngb f (-999) 999 && rngb sp (-50) 50 && rngb mn 0 50 && (decide (mn = 0) || rngb (f + (sp * (mn - 1))) (-999) 999)) true) := by simp [cd, hB_4, hB_19, (TOK_j hjx rfl), hB_27]
          have hP8 := hP.sub (ws' := [((b 0), .inr (15, [.int (cd (TOKb (nI jx)) false true), .ref (b 1), .ref (b 2), .int 0, .ref (b 3), .ref (b 4), .ref (b 5), .null, .ref (b 6), .int 0, .int 0, .int 0, .int 0, .int 0]))]) [0] rfl
          rw [hcd] at hP8
          exact W.iret (v := 0) hx hb hr (fun t ht hW => ⟨⟨0, (), rfl, (fun h => by first | rfl | (exact absurd (cd_0.mp h) (by simp [hB_4, hB_19, (TOK_j hjx rfl), hB_27]))), ⟨[.ref (b 1), .ref (b 2), .int 0, .ref (b 3), .ref (b 4), .ref (b 5), .null, .ref (b 6), .int 0, .int 0, .int 0, .int 0, .int 0], P_at ht hP8⟩⟩, hS.F ht⟩) hS.2.2 dX13_fill_101
    · have hB_19 : (rngb sp (-50) 50) = true := b2i_1 c_18
      refine lv_iload hx hb dX13_fill_24 (lv_at hl 5 rfl) ?_
      refine lv_iconst (v := 0) hx hb dX13_fill_26 (by decide) ?_
      refine lv_bipush (v := 50) hx hb dX13_fill_27 (by decide) ?_
      refine va_calli (va_runS (As := [.int mn, .int 0, .int 50]) (rest := []) ⟨hx, hb, hml, hown, hts⟩ (c_X13_in l dC dI g (modW b r1 r2 g th) mn 0 50   H_17.size) (va_cwS 3 hts gX13_fill_X13_in rfl rfl rfl (by decide +kernel) ⟨Nat.le_of_ble_eq_true rfl, Nat.le_of_ble_eq_true rfl⟩) ⟨PG_blind, PG_call hK hG hS hP hD (A_all hD hA hS.1)⟩ rfl rfl hl.1 rfl (lv_room (Nat.le_of_ble_eq_true rfl)) dX13_fill_29 ⟨Nat.le_of_ble_eq_true rfl, Nat.le_of_ble_eq_true rfl⟩) hS (fun q _ h => (A_all hD hA hS.1) q h) (A_all hD hA hS.1) (fun r_32 u_32 t_32 H_32 L_32 ht_32 hvm_32 hw_32 hB_32 hz_32 hk_32 hS => ?_)
      replace hB_32 := (show va_P (dC, dI) vwCl (modW b r1 r2 g th) t_32.heap from hB_32)
      rw [ht_32] at hB_32
      have hP := hB_32
      obtain rfl : r_32 = b2i (rngb mn 0 50) := hw_32
      refine lv_if_eq (tgt := 39) hx hb dX13_fill_32 (by decide) (fun c_33 => ?_) (fun c_33 => ?_)
      · have hB_34 : (rngb mn 0 50) = false := b2i_0 c_33
        refine lv_iconst (v := 0) hx hb dX13_fill_39 (by decide) ?_
        refine lv_istore (lv' := [(6, .int 0), (5, .int (b2i (TOKb x))), (0, .ref (b 0)), (1, .int x), (2, .int f), (3, .int sp), (4, .int mn)]) hx hb dX13_fill_40 hl (by decide) rfl (fun ls hl => ?_)
        refine lv_aload_n hx hb dX13_fill_42 rfl (lv_at hl 2 rfl) ?_
        refine lv_iload hx hb dX13_fill_43 (lv_at hl 1 rfl) ?_
        refine lv_iload hx hb dX13_fill_45 (lv_at hl 0 rfl) ?_
        refine lv_if_eq (tgt := 73) hx hb dX13_fill_47 (by decide) (fun c_35 => ?_) (fun c_35 => absurd (by decide) c_35)
        refine lv_iconst (v := 0) hx hb dX13_fill_73 (by decide) ?_
        refine lv_iload hx hb dX13_fill_74 (lv_at hl 1 rfl) ?_
        refine lv_if_eq (tgt := 93) hx hb dX13_fill_76 (by decide) (fun c_36 => ?_) (fun c_36 => ?_)
        · have hB_37 : (TOKb x) = false := b2i_0 c_36
          refine lv_iconst (v := 0) hx hb dX13_fill_93 (by decide) ?_
          refine va_calli (va_runV (As := [.int (b2i (TOKb x)), .int 0, .int 0]) (rest := []) ⟨hx, hb, hml, hown, hts⟩ (c_X13_passes l dC dI g b r1 r2 th (TOKb x) false false  H_32.size) (cwV 3 hts gX13_fill_X13_passes rfl rfl rfl (by decide +kernel) ⟨Nat.le_of_ble_eq_true rfl, Nat.le_of_ble_eq_true rfl⟩) ⟨PG_blind, va_recv hK hP (ci := 15) (q0 := 0) rfl (m_0 b r1 r2 g th), PG_call hK hG hS hP hD (A_all hD hA hS.1)⟩ rfl rfl hl.1 rfl (lv_room (Nat.le_of_ble_eq_true rfl)) dX13_fill_94 ⟨Nat.le_of_ble_eq_true rfl, Nat.le_of_ble_eq_true rfl⟩) hS (fun q _ h => (A_all hD hA hS.1) q h) (A_all hD hA hS.1) (fun r_38 u_38 t_38 H_38 L_38 ht_38 hvm_38 hw_38 hB_38 hz_38 hk_38 hS => ?_)
          rw [ht_38] at hB_38
          have hP : va_P (dC, dI) vwCl (modW b r1 r2 g (cd (TOKb x) false false)) H_38 := hB_38
          have hD : va_D A (modW b r1 r2 g (cd (TOKb x) false false)) := va_D_th hD
          obtain rfl : r_38 = 0 := hw_38.trans (by simp [b2i, hB_37])
          refine lv_if_ne (tgt := 102) hx hb dX13_fill_97 (by decide) (fun c_39 => absurd (by decide) c_39) (fun c_39 => ?_)
          refine lv_iconst (v := 0) hx hb dX13_fill_100 (by decide) ?_
          refine W.widen (k := 50) (n := 5050) (by omega) (by omega) ?_
          have hcd : (cd (TOKb x) false false) = (cd (TOKb x) (rngb f (-999) 999 && rngb sp (-50) 50 && rngb mn 0 50 && (decide (mn = 0) || rngb (f + (sp * (mn - 1))) (-999) 999)) true) := by simp [cd, hB_4, hB_19, hB_34, hB_37]
          have hP8 := hP.sub (ws' := [((b 0), .inr (15, [.int (cd (TOKb x) false false), .ref (b 1), .ref (b 2), .int 0, .ref (b 3), .ref (b 4), .ref (b 5), .null, .ref (b 6), .int 0, .int 0, .int 0, .int 0, .int 0]))]) [0] rfl
          rw [hcd] at hP8
          exact W.iret (v := 0) hx hb hr (fun t ht hW => ⟨⟨0, (), rfl, (fun h => by first | rfl | (exact absurd (cd_0.mp h) (by simp [hB_4, hB_19, hB_34, hB_37]))), ⟨[.ref (b 1), .ref (b 2), .int 0, .ref (b 3), .ref (b 4), .ref (b 5), .null, .ref (b 6), .int 0, .int 0, .int 0, .int 0, .int 0], P_at ht hP8⟩⟩, hS.F ht⟩) hS.2.2 dX13_fill_101
        · have hB_37 : (TOKb x) = true := b2i_1 c_36
          obtain ⟨jx, hjx, rfl⟩ := TOK_ex hB_37
          refine lv_aload_n hx hb dX13_fill_79 rfl (lv_at hl 2 rfl) ?_
          refine lv_iload_n hx hb dX13_fill_80 rfl (lv_at hl 3 rfl) ?_
          refine lv_iload hx hb dX13_fill_81 (lv_at hl 6 rfl) ?_
          refine va_calli (va_runV (As := [.int (nI jx), .int mn]) (rest := [.int 0, .int (b2i (TOKb (nI jx))), .ref (b 0)]) ⟨hx, hb, hml, hown, hts⟩ (c_X13_haveRoom l dC dI g b r1 r2 jx mn th hjx H_32.size) (cwV 2 hts gX13_fill_X13_haveRoom rfl rfl rfl (by decide +kernel) ⟨Nat.le_of_ble_eq_true rfl, Nat.le_of_ble_eq_true rfl⟩) ⟨PG_blind, va_recv hK hP (ci := 15) (q0 := 0) rfl (m_0 b r1 r2 g th), PG_call hK hG hS hP hD (A_all hD hA hS.1)⟩ rfl rfl hl.1 rfl (lv_room (Nat.le_of_ble_eq_true rfl)) dX13_fill_83 ⟨Nat.le_of_ble_eq_true rfl, Nat.le_of_ble_eq_true rfl⟩) hS (fun q _ h => (A_all hD hA hS.1) q h) (A_all hD hA hS.1) (fun r_40 u_40 t_40 H_40 L_40 ht_40 hvm_40 hw_40 hB_40 hz_40 hk_40 hS => ?_)
          replace hB_40 := (show va_P (dC, dI) vwCl (modW b r1 r2 g th) t_40.heap from hB_40)
          rw [ht_40] at hB_40
          have hP := hB_40
          obtain rfl : r_40 = b2i (hrm mn) := hw_40
          refine lv_if_eq (tgt := 93) hx hb dX13_fill_86 (by decide) (fun c_41 => ?_) (fun c_41 => ?_)
          · have hB_42 : (hrm mn) = false := b2i_0 c_41
            refine lv_iconst (v := 0) hx hb dX13_fill_93 (by decide) ?_
            refine va_calli (va_runV (As := [.int (b2i (TOKb (nI jx))), .int 0, .int 0]) (rest := []) ⟨hx, hb, hml, hown, hts⟩ (c_X13_passes l dC dI g b r1 r2 th (TOKb (nI jx)) false false  H_40.size) (cwV 3 hts gX13_fill_X13_passes rfl rfl rfl (by decide +kernel) ⟨Nat.le_of_ble_eq_true rfl, Nat.le_of_ble_eq_true rfl⟩) ⟨PG_blind, va_recv hK hP (ci := 15) (q0 := 0) rfl (m_0 b r1 r2 g th), PG_call hK hG hS hP hD (A_all hD hA hS.1)⟩ rfl rfl hl.1 rfl (lv_room (Nat.le_of_ble_eq_true rfl)) dX13_fill_94 ⟨Nat.le_of_ble_eq_true rfl, Nat.le_of_ble_eq_true rfl⟩) hS (fun q _ h => (A_all hD hA hS.1) q h) (A_all hD hA hS.1) (fun r_43 u_43 t_43 H_43 L_43 ht_43 hvm_43 hw_43 hB_43 hz_43 hk_43 hS => ?_)
            rw [ht_43] at hB_43
            have hP : va_P (dC, dI) vwCl (modW b r1 r2 g (cd (TOKb (nI jx)) false false)) H_43 := hB_43
            have hD : va_D A (modW b r1 r2 g (cd (TOKb (nI jx)) false false)) := va_D_th hD
            obtain rfl : r_43 = 0 := hw_43.trans (by simp [b2i, (TOK_j hjx rfl)])
            refine lv_if_ne (tgt := 102) hx hb dX13_fill_97 (by decide) (fun c_44 => absurd (by decide) c_44) (fun c_44 => ?_)
            refine lv_iconst (v := 0) hx hb dX13_fill_100 (by decide) ?_
            refine W.widen (k := 50) (n := 5050) (by omega) (by omega) ?_
            have hcd : (cd (TOKb (nI jx)) false false) = (cd (TOKb (nI jx)) (rngb f (-999) 999 && rngb sp (-50) 50 && rngb mn 0 50 && (decide (mn = 0) || rngb (f + (sp * (mn - 1))) (-999) 999)) true) := by simp [cd, hB_4, hB_19, hB_34, (TOK_j hjx rfl), hB_42]
            have hP8 := hP.sub (ws' := [((b 0), .inr (15, [.int (cd (TOKb (nI jx)) false false), .ref (b 1), .ref (b 2), .int 0, .ref (b 3), .ref (b 4), .ref (b 5), .null, .ref (b 6), .int 0, .int 0, .int 0, .int 0, .int 0]))]) [0] rfl
            rw [hcd] at hP8
            exact W.iret (v := 0) hx hb hr (fun t ht hW => ⟨⟨0, (), rfl, (fun h => by first | rfl | (exact absurd (cd_0.mp h) (by simp [hB_4, hB_19, hB_34, (TOK_j hjx rfl), hB_42]))), ⟨[.ref (b 1), .ref (b 2), .int 0, .ref (b 3), .ref (b 4), .ref (b 5), .null, .ref (b 6), .int 0, .int 0, .int 0, .int 0, .int 0], P_at ht hP8⟩⟩, hS.F ht⟩) hS.2.2 dX13_fill_101
          · have hB_42 : (hrm mn) = true := b2i_1 c_41
            refine lv_iconst (v := 1) hx hb dX13_fill_89 (by decide) ?_
            refine lv_goto (tgt := 94) hx hb dX13_fill_90 (by decide) ?_
            refine va_calli (va_runV (As := [.int (b2i (TOKb (nI jx))), .int 0, .int 1]) (rest := []) ⟨hx, hb, hml, hown, hts⟩ (c_X13_passes l dC dI g b r1 r2 th (TOKb (nI jx)) false true  H_40.size) (cwV 3 hts gX13_fill_X13_passes rfl rfl rfl (by decide +kernel) ⟨Nat.le_of_ble_eq_true rfl, Nat.le_of_ble_eq_true rfl⟩) ⟨PG_blind, va_recv hK hP (ci := 15) (q0 := 0) rfl (m_0 b r1 r2 g th), PG_call hK hG hS hP hD (A_all hD hA hS.1)⟩ rfl rfl hl.1 rfl (lv_room (Nat.le_of_ble_eq_true rfl)) dX13_fill_94 ⟨Nat.le_of_ble_eq_true rfl, Nat.le_of_ble_eq_true rfl⟩) hS (fun q _ h => (A_all hD hA hS.1) q h) (A_all hD hA hS.1) (fun r_45 u_45 t_45 H_45 L_45 ht_45 hvm_45 hw_45 hB_45 hz_45 hk_45 hS => ?_)
            rw [ht_45] at hB_45
            have hP : va_P (dC, dI) vwCl (modW b r1 r2 g (cd (TOKb (nI jx)) false true)) H_45 := hB_45
            have hD : va_D A (modW b r1 r2 g (cd (TOKb (nI jx)) false true)) := va_D_th hD
            obtain rfl : r_45 = 0 := hw_45.trans (by simp [b2i, (TOK_j hjx rfl)])
            refine lv_if_ne (tgt := 102) hx hb dX13_fill_97 (by decide) (fun c_46 => absurd (by decide) c_46) (fun c_46 => ?_)
            refine lv_iconst (v := 0) hx hb dX13_fill_100 (by decide) ?_
            refine W.widen (k := 50) (n := 5050) (by omega) (by omega) ?_
            have hcd : (cd (TOKb (nI jx)) false true) = (cd (TOKb (nI jx)) (rngb f (-999) 999 && rngb sp (-50) 50 && rngb mn 0 50 && (decide (mn = 0) || rngb (f + (sp * (mn - 1))) (-999) 999)) true) := by simp [cd, hB_4, hB_19, hB_34, (TOK_j hjx rfl), hB_42]
            have hP8 := hP.sub (ws' := [((b 0), .inr (15, [.int (cd (TOKb (nI jx)) false true), .ref (b 1), .ref (b 2), .int 0, .ref (b 3), .ref (b 4), .ref (b 5), .null, .ref (b 6), .int 0, .int 0, .int 0, .int 0, .int 0]))]) [0] rfl
            rw [hcd] at hP8
            exact W.iret (v := 0) hx hb hr (fun t ht hW => ⟨⟨0, (), rfl, (fun h => by first | rfl | (exact absurd (cd_0.mp h) (by simp [hB_4, hB_19, hB_34, (TOK_j hjx rfl), hB_42]))), ⟨[.ref (b 1), .ref (b 2), .int 0, .ref (b 3), .ref (b 4), .ref (b 5), .null, .ref (b 6), .int 0, .int 0, .int 0, .int 0, .int 0], P_at ht hP8⟩⟩, hS.F ht⟩) hS.2.2 dX13_fill_101
      · have hB_34 : (rngb mn 0 50) = true := b2i_1 c_33
        refine lv_iconst (v := 1) hx hb dX13_fill_35 (by decide) ?_
        refine lv_goto (tgt := 40) hx hb dX13_fill_36 (by decide) ?_
        refine lv_istore (lv' := [(6, .int 1), (5, .int (b2i (TOKb x))), (0, .ref (b 0)), (1, .int x), (2, .int f), (3, .int sp), (4, .int mn)]) hx hb dX13_fill_40 hl (by decide) rfl (fun ls hl => ?_)
        refine lv_aload_n hx hb dX13_fill_42 rfl (lv_at hl 2 rfl) ?_
        refine lv_iload hx hb dX13_fill_43 (lv_at hl 1 rfl) ?_
        refine lv_iload hx hb dX13_fill_45 (lv_at hl 0 rfl) ?_
        refine lv_if_eq (tgt := 73) hx hb dX13_fill_47 (by decide) (fun c_47 => absurd c_47 (by decide)) (fun c_47 => ?_)
        refine lv_iload hx hb dX13_fill_50 (lv_at hl 6 rfl) ?_
        refine lv_if_eq (tgt := 69) hx hb dX13_fill_52 (by decide) (fun c_48 => ?_) (fun c_48 => ?_)
        · refine lv_iconst (v := 1) hx hb dX13_fill_69 (by decide) ?_
          refine lv_goto (tgt := 74) hx hb dX13_fill_70 (by decide) ?_
          refine lv_iload hx hb dX13_fill_74 (lv_at hl 1 rfl) ?_
          refine lv_if_eq (tgt := 93) hx hb dX13_fill_76 (by decide) (fun c_49 => ?_) (fun c_49 => ?_)
          · have hB_50 : (TOKb x) = false := b2i_0 c_49
            refine lv_iconst (v := 0) hx hb dX13_fill_93 (by decide) ?_
            refine va_calli (va_runV (As := [.int (b2i (TOKb x)), .int 1, .int 0]) (rest := []) ⟨hx, hb, hml, hown, hts⟩ (c_X13_passes l dC dI g b r1 r2 th (TOKb x) true false  H_32.size) (cwV 3 hts gX13_fill_X13_passes rfl rfl rfl (by decide +kernel) ⟨Nat.le_of_ble_eq_true rfl, Nat.le_of_ble_eq_true rfl⟩) ⟨PG_blind, va_recv hK hP (ci := 15) (q0 := 0) rfl (m_0 b r1 r2 g th), PG_call hK hG hS hP hD (A_all hD hA hS.1)⟩ rfl rfl hl.1 rfl (lv_room (Nat.le_of_ble_eq_true rfl)) dX13_fill_94 ⟨Nat.le_of_ble_eq_true rfl, Nat.le_of_ble_eq_true rfl⟩) hS (fun q _ h => (A_all hD hA hS.1) q h) (A_all hD hA hS.1) (fun r_51 u_51 t_51 H_51 L_51 ht_51 hvm_51 hw_51 hB_51 hz_51 hk_51 hS => ?_)
            rw [ht_51] at hB_51
            have hP : va_P (dC, dI) vwCl (modW b r1 r2 g (cd (TOKb x) true false)) H_51 := hB_51
            have hD : va_D A (modW b r1 r2 g (cd (TOKb x) true false)) := va_D_th hD
            obtain rfl : r_51 = 0 := hw_51.trans (by simp [b2i, hB_50])
            refine lv_if_ne (tgt := 102) hx hb dX13_fill_97 (by decide) (fun c_52 => absurd (by decide) c_52) (fun c_52 => ?_)
            refine lv_iconst (v := 0) hx hb dX13_fill_100 (by decide) ?_
            refine W.widen (k := 50) (n := 5050) (by omega) (by omega) ?_
            have hcd : (cd (TOKb x) true false) = (cd (TOKb x) (rngb f (-999) 999 && rngb sp (-50) 50 && rngb mn 0 50 && (decide (mn = 0) || rngb (f + (sp * (mn - 1))) (-999) 999)) true) := by simp [cd, hB_4, hB_19, hB_34, hB_50, (decide_eq_true c_48)]
            have hP8 := hP.sub (ws' := [((b 0), .inr (15, [.int (cd (TOKb x) true false), .ref (b 1), .ref (b 2), .int 0, .ref (b 3), .ref (b 4), .ref (b 5), .null, .ref (b 6), .int 0, .int 0, .int 0, .int 0, .int 0]))]) [0] rfl
            rw [hcd] at hP8
            exact W.iret (v := 0) hx hb hr (fun t ht hW => ⟨⟨0, (), rfl, (fun h => by first | rfl | (exact absurd (cd_0.mp h) (by simp [hB_4, hB_19, hB_34, hB_50, (decide_eq_true c_48)]))), ⟨[.ref (b 1), .ref (b 2), .int 0, .ref (b 3), .ref (b 4), .ref (b 5), .null, .ref (b 6), .int 0, .int 0, .int 0, .int 0, .int 0], P_at ht hP8⟩⟩, hS.F ht⟩) hS.2.2 dX13_fill_101
          · have hB_50 : (TOKb x) = true := b2i_1 c_49
            obtain ⟨jx, hjx, rfl⟩ := TOK_ex hB_50
            refine lv_aload_n hx hb dX13_fill_79 rfl (lv_at hl 2 rfl) ?_
            refine lv_iload_n hx hb dX13_fill_80 rfl (lv_at hl 3 rfl) ?_
            refine lv_iload hx hb dX13_fill_81 (lv_at hl 6 rfl) ?_
            refine va_calli (va_runV (As := [.int (nI jx), .int mn]) (rest := [.int 1, .int (b2i (TOKb (nI jx))), .ref (b 0)]) ⟨hx, hb, hml, hown, hts⟩ (c_X13_haveRoom l dC dI g b r1 r2 jx mn th hjx H_32.size) (cwV 2 hts gX13_fill_X13_haveRoom rfl rfl rfl (by decide +kernel) ⟨Nat.le_of_ble_eq_true rfl, Nat.le_of_ble_eq_true rfl⟩) ⟨PG_blind, va_recv hK hP (ci := 15) (q0 := 0) rfl (m_0 b r1 r2 g th), PG_call hK hG hS hP hD (A_all hD hA hS.1)⟩ rfl rfl hl.1 rfl (lv_room (Nat.le_of_ble_eq_true rfl)) dX13_fill_83 ⟨Nat.le_of_ble_eq_true rfl, Nat.le_of_ble_eq_true rfl⟩) hS (fun q _ h => (A_all hD hA hS.1) q h) (A_all hD hA hS.1) (fun r_53 u_53 t_53 H_53 L_53 ht_53 hvm_53 hw_53 hB_53 hz_53 hk_53 hS => ?_)
            replace hB_53 := (show va_P (dC, dI) vwCl (modW b r1 r2 g th) t_53.heap from hB_53)
            rw [ht_53] at hB_53
            have hP := hB_53
            obtain rfl : r_53 = 1 := hw_53.trans (by rw [hrm_t hB_34]; rfl)
            refine lv_if_eq (tgt := 93) hx hb dX13_fill_86 (by decide) (fun c_54 => absurd c_54 (by decide)) (fun c_54 => ?_)
            refine lv_iconst (v := 1) hx hb dX13_fill_89 (by decide) ?_
            refine lv_goto (tgt := 94) hx hb dX13_fill_90 (by decide) ?_
            refine va_calli (va_runV (As := [.int (b2i (TOKb (nI jx))), .int 1, .int 1]) (rest := []) ⟨hx, hb, hml, hown, hts⟩ (c_X13_passes l dC dI g b r1 r2 th (TOKb (nI jx)) true true  H_53.size) (cwV 3 hts gX13_fill_X13_passes rfl rfl rfl (by decide +kernel) ⟨Nat.le_of_ble_eq_true rfl, Nat.le_of_ble_eq_true rfl⟩) ⟨PG_blind, va_recv hK hP (ci := 15) (q0 := 0) rfl (m_0 b r1 r2 g th), PG_call hK hG hS hP hD (A_all hD hA hS.1)⟩ rfl rfl hl.1 rfl (lv_room (Nat.le_of_ble_eq_true rfl)) dX13_fill_94 ⟨Nat.le_of_ble_eq_true rfl, Nat.le_of_ble_eq_true rfl⟩) hS (fun q _ h => (A_all hD hA hS.1) q h) (A_all hD hA hS.1) (fun r_55 u_55 t_55 H_55 L_55 ht_55 hvm_55 hw_55 hB_55 hz_55 hk_55 hS => ?_)
            rw [ht_55] at hB_55
            have hP : va_P (dC, dI) vwCl (modW b r1 r2 g (cd (TOKb (nI jx)) true true)) H_55 := hB_55
            have hD : va_D A (modW b r1 r2 g (cd (TOKb (nI jx)) true true)) := va_D_th hD
            obtain rfl : r_55 = 1 := hw_55.trans (by simp [b2i, (TOK_j hjx rfl)])
            refine lv_if_ne (tgt := 102) hx hb dX13_fill_97 (by decide) (fun c_56 => ?_) (fun c_56 => absurd c_56 (by decide))
            refine lv_iconst (v := 0) hx hb dX13_fill_102 (by decide) ?_
            refine lv_istore (lv' := [(7, .int 0), (6, .int 1), (5, .int (b2i (TOKb (nI jx)))), (0, .ref (b 0)), (1, .int (nI jx)), (2, .int f), (3, .int sp), (4, .int mn)]) hx hb dX13_fill_103 hl (by decide) rfl (fun ls hl => ?_)
            obtain ⟨M, hM, rfl⟩ := rng_ex (n := 50) hB_34 (by decide)
            obtain ⟨hP, hD⟩ := mod_x b r1 r2 g (cd (TOKb (nI jx)) true true) jx hjx hP hD
            replace hP := hP.sub (ws' := [((b 0), .inr (15, [.int (cd (TOKb (nI jx)) true true), .ref (b 1), .ref (b 2), .int (nI 0), .ref (b 3), .ref (b 4), .ref (b 5), .null, .ref (b 6), .int 0, .int 0, .int 0, .int 0, .int 0])), ((b 3), .inl (g 4, 8, .inr (.inr (.inr (.inr (fun i => if i < 8 then some (r1 i) else none)))))), ((r1 jx), .inl (g 0, 0, .inl (fun _ => 0))), ((b 1), .inl (g 0, 200, .inl (fun _ => 0))), ((b 2), .inl (g 0, 200, .inl (fun _ => 0)))]) [0, 1, 2, 3, 4] rfl
            replace hD := hD.sub (ws' := [((b 0), .inr (15, [.int (cd (TOKb (nI jx)) true true), .ref (b 1), .ref (b 2), .int (nI 0), .ref (b 3), .ref (b 4), .ref (b 5), .null, .ref (b 6), .int 0, .int 0, .int 0, .int 0, .int 0])), ((b 3), .inl (g 4, 8, .inr (.inr (.inr (.inr (fun i => if i < 8 then some (r1 i) else none)))))), ((r1 jx), .inl (g 0, 0, .inl (fun _ => 0))), ((b 1), .inl (g 0, 200, .inl (fun _ => 0))), ((b 2), .inl (g 0, 200, .inl (fun _ => 0)))]) [0, 1, 2, 3, 4] (by decide) rfl
            have hP : va_P (dC, dI) vwCl [((b 0), .inr (15, [.int (cd (TOKb (nI jx)) true true), .ref (b 1), .ref (b 2), .int (nI 0), .ref (b 3), .ref (b 4), .ref (b 5), .null, .ref (b 6), .int 0, .int 0, .int 0, .int 0, .int 0])), ((b 3), .inl (g 4, 8, .inr (.inr (.inr (.inr (fun i => if i < 8 then some (r1 i) else none)))))), ((r1 jx), .inl (g 0, 0, .inl (fun _ => 0))), ((b 1), .inl (g 0, 200, .inl (fun _ => 0))), ((b 2), .inl (g 0, 200, .inl (fun _ => 0)))] H_55 := hP
            have hD : va_D A [((b 0), .inr (15, [.int (cd (TOKb (nI jx)) true true), .ref (b 1), .ref (b 2), .int (nI 0), .ref (b 3), .ref (b 4), .ref (b 5), .null, .ref (b 6), .int 0, .int 0, .int 0, .int 0, .int 0])), ((b 3), .inl (g 4, 8, .inr (.inr (.inr (.inr (fun i => if i < 8 then some (r1 i) else none)))))), ((r1 jx), .inl (g 0, 0, .inl (fun _ => 0))), ((b 1), .inl (g 0, 200, .inl (fun _ => 0))), ((b 2), .inl (g 0, 200, .inl (fun _ => 0)))] := hD
            refine W_abs (fun Q hQ => ?_)
            have LOOP105 : ∀ (n i : Nat), i ≤ M → M < i + n → ∀ (fk : Nat → Int32) (fm : Nat → Int32) (fr : Nat → Int32) (fo : Nat → Option Nat) (q : Nat) (H : Heap) (locs : List Loc), fo jx = some q → va_P (dC, dI) vwCl [((b 0), .inr (15, [.int (cd (TOKb (nI jx)) true true), .ref (b 1), .ref (b 2), .int (nI i), .ref (b 3), .ref (b 4), .ref (b 5), .null, .ref (b 6), .int 0, .int 0, .int 0, .int 0, .int 0])), ((b 3), .inl (g 4, 8, .inr (.inr (.inr (.inr fo))))), (q, .inl (g 0, i, .inl fr)), ((b 1), .inl (g 0, 200, .inl fk)), ((b 2), .inl (g 0, 200, .inl fm))] H → va_D A [((b 0), .inr (15, [.int (cd (TOKb (nI jx)) true true), .ref (b 1), .ref (b 2), .int (nI i), .ref (b 3), .ref (b 4), .ref (b 5), .null, .ref (b 6), .int 0, .int 0, .int 0, .int 0, .int 0])), ((b 3), .inl (g 4, 8, .inr (.inr (.inr (.inr fo))))), (q, .inl (g 0, i, .inl fr)), ((b 1), .inl (g 0, 200, .inl fk)), ((b 2), .inl (g 0, 200, .inl fm))] → va_S A s.heap H locs → ∀ (ls : Array Slot), lv_has ls 8 [(7, .int (nI i)), (0, .ref (b 0)), (1, .int (nI jx)), (2, .int f), (3, .int sp), (4, .int (nI M))] → W p l e (headSpec wsX13_fill ({ frames := 2, cells := 50, slots := 5050, locals := 42 })).room s m ([.ref (b 0), .int (nI jx), .int f, .int sp, .int (nI M)] : List Value).toArray below meth c H locs (i) (101 * i) Q (F0 m 105 ls []) := by
              intro n
              induction n with
              | zero =>
                intro i h1 h2
                exact absurd h2 (by omega)
              | succ n ih =>
                intro i hi hin fk fm fr fo q H locs hfo hP hD hS ls hl
                refine lv_iload hx hb dX13_fill_105 (lv_at hl 0 rfl) ?_
                refine lv_iload hx hb dX13_fill_107 (lv_at hl 5 rfl) ?_
                refine lv_icmp_ge (tgt := 130) hx hb dX13_fill_109 (by decide) (fun c_57 => ?_) (fun c_57 => ?_)
                · have h9 := (nI_leI (by omega) (by omega)).mp c_57
                  obtain rfl : M = i := by omega
                  refine lv_aload_n hx hb dX13_fill_130 rfl (lv_at hl 1 rfl) ?_
                  refine va_get (D := (dC, dI)) (ci := 15) (v := .ref (b 3)) (C := RX13) (T := TX13) (N := 14) hx hb hts hiX13 hown hK hP 0 rfl rfl 4 (by decide) hf29 (fun _ h9 => h9) rfl dX13_fill_131 ?_
                  refine lv_iload_n hx hb dX13_fill_134 rfl (lv_at hl 2 rfl) ?_
                  refine va_aldA hx hb hK hP 1 rfl (vp_in_nI hjx (by decide)) dX13_fill_135 ?_
                  refine W.eq (g2 := F0 m 136 ls [.ref q]) (by rw [nI_clamp (show jx < 2 ^ 31 by omega), hfo]; rfl) ?_
                  refine va_alen hx hb hK hP 2 0 rfl rfl (v := nI M) rfl dX13_fill_136 ?_
                  refine W.widen (k := 50) (n := 5050) (by omega) (by omega) ?_
                  subst hQ
                  have hcd : (cd (TOKb (nI jx)) true true) = (cd (TOKb (nI jx)) (rngb f (-999) 999 && rngb sp (-50) 50 && rngb (nI M) 0 50 && (decide ((nI M) = 0) || rngb (f + (sp * ((nI M) - 1))) (-999) 999)) true) := by simp [cd, hB_4, hB_19, hB_34, (TOK_j hjx rfl), (decide_eq_true c_48)]
                  have hP8 := hP.sub (ws' := [((b 0), .inr (15, [.int (cd (TOKb (nI jx)) true true), .ref (b 1), .ref (b 2), .int (nI M), .ref (b 3), .ref (b 4), .ref (b 5), .null, .ref (b 6), .int 0, .int 0, .int 0, .int 0, .int 0]))]) [0] rfl
                  rw [hcd] at hP8
                  exact W.iret (v := (nI M)) hx hb hr (fun t ht hW => ⟨⟨(nI M), (), rfl, (fun h => by first | rfl | (exact absurd (cd_0.mp h) (by simp [hB_4, hB_19, hB_34, (TOK_j hjx rfl), (decide_eq_true c_48)]))), ⟨[.ref (b 1), .ref (b 2), .int (nI M), .ref (b 3), .ref (b 4), .ref (b 5), .null, .ref (b 6), .int 0, .int 0, .int 0, .int 0, .int 0], P_at ht hP8⟩⟩, hS.F ht⟩) hS.2.2 dX13_fill_137
                · have hlt : i < M := by
                    rcases Nat.lt_or_ge i M with q | q
                    · exact q
                    · exact absurd (nI_le q (by omega)) c_57
                  refine lv_aload_n hx hb dX13_fill_112 rfl (lv_at hl 1 rfl) ?_
                  refine lv_iload_n hx hb dX13_fill_113 rfl (lv_at hl 2 rfl) ?_
                  refine lv_iload_n hx hb dX13_fill_114 rfl (lv_at hl 3 rfl) ?_
                  refine lv_iload hx hb dX13_fill_115 (lv_at hl 0 rfl) ?_
                  refine lv_iload_n hx hb dX13_fill_117 rfl (lv_at hl 4 rfl) ?_
                  refine lv_imul hx hb dX13_fill_118 ?_
                  refine lv_topi (fun x_58 ex_58 => ?_)
                  refine lv_iadd hx hb dX13_fill_119 ?_
                  refine lv_topi (fun x_59 ex_59 => ?_)
                  refine lv_iconst (v := 0) hx hb dX13_fill_120 (by decide) ?_
                  have hPc := hP.sub (ws' := [((b 0), .inr (15, [.int (cd (TOKb (nI jx)) true true), .ref (b 1), .ref (b 2), .int (nI i), .ref (b 3), .ref (b 4), .ref (b 5), .null, .ref (b 6), .int 0, .int 0, .int 0, .int 0, .int 0])), ((b 3), .inl (g 4, 8, .inr (.inr (.inr (.inr fo))))), (q, .inl (g 0, i, .inl fr)), ((b 1), .inl (g 0, 200, .inl fk)), ((b 2), .inl (g 0, 200, .inl fm))]) [0, 1, 2, 3, 4] rfl
                  have hDc := hD.sub (ws' := [((b 0), .inr (15, [.int (cd (TOKb (nI jx)) true true), .ref (b 1), .ref (b 2), .int (nI i), .ref (b 3), .ref (b 4), .ref (b 5), .null, .ref (b 6), .int 0, .int 0, .int 0, .int 0, .int 0])), ((b 3), .inl (g 4, 8, .inr (.inr (.inr (.inr fo))))), (q, .inl (g 0, i, .inl fr)), ((b 1), .inl (g 0, 200, .inl fk)), ((b 2), .inl (g 0, 200, .inl fm))]) [0, 1, 2, 3, 4] (by decide) rfl
                  have hFc := va_free (wc := [((b 0), .inr (15, [.int (cd (TOKb (nI jx)) true true), .ref (b 1), .ref (b 2), .int (nI i), .ref (b 3), .ref (b 4), .ref (b 5), .null, .ref (b 6), .int 0, .int 0, .int 0, .int 0, .int 0])), ((b 3), .inl (g 4, 8, .inr (.inr (.inr (.inr fo))))), (q, .inl (g 0, i, .inl fr)), ((b 1), .inl (g 0, 200, .inl fk)), ((b 2), .inl (g 0, 200, .inl fm))]) hD hS hA [0, 1, 2, 3, 4] rfl
                  refine va_callv (va_runV (As := [.int (nI jx), .int x_59, .int 0]) (rest := []) ⟨hx, hb, hml, hown, hts⟩ (c_X13_comes l dC dI g b r1 r2 jx q i fo fr fk fm x_59 0 (cd (TOKb (nI jx)) true true) hjx hfo (by omega) H.size) (cwV 3 hts gX13_fill_X13_comes rfl rfl rfl (by decide +kernel) ⟨Nat.le_of_ble_eq_true rfl, Nat.le_of_ble_eq_true rfl⟩) ⟨PG_blind, va_recv hK hP (ci := 15) (q0 := 0) rfl rfl, PG_call hK hG hS hPc hDc hFc⟩ rfl rfl hl.1 rfl (lv_room (Nat.le_of_ble_eq_true rfl)) dX13_fill_121 ⟨Nat.le_trans (show i + 1 ≤ 50 by omega) (Nat.le_of_ble_eq_true rfl), Nat.le_trans (show 101 * i + 101 ≤ 5050 by omega) (Nat.le_of_ble_eq_true rfl)⟩) hS (fun q _ h => hFc q h) hFc (fun u_60 t_60 H_60 L_60 ht_60 hvm_60 hw_60 hB_60 hz_60 hk_60 hS => ?_)
                  obtain ⟨hP1, hD1⟩ := hB_60
                  rw [ht_60] at hP1
                  obtain ⟨hP, hD⟩ := va_join (wr := []) (w1 := [((b 0), .inr (15, [.int (cd (TOKb (nI jx)) true true), .ref (b 1), .ref (b 2), .int (nI (i + 1)), .ref (b 3), .ref (b 4), .ref (b 5), .null, .ref (b 6), .int 0, .int 0, .int 0, .int 0, .int 0])), ((b 3), .inl (g 4, 8, .inr (.inr (.inr (.inr (va_up fo (nI jx).toNatClampNeg (some (u_60.1)))))))), ((u_60.1), .inl (g 0, (i + 1), .inl (u_60.2))), ((b 1), .inl (g 0, 200, .inl (upd fk (nI i).toNatClampNeg x_59))), ((b 2), .inl (g 0, 200, .inl (upd fm (nI i).toNatClampNeg 0)))]) hP hD [0, 1, 2, 3, 4] [] rfl rfl (by decide) (by decide) hk_60 hFc hP1 hD1
                  have hP : va_P (dC, dI) vwCl [((b 0), .inr (15, [.int (cd (TOKb (nI jx)) true true), .ref (b 1), .ref (b 2), .int (nI (i + 1)), .ref (b 3), .ref (b 4), .ref (b 5), .null, .ref (b 6), .int 0, .int 0, .int 0, .int 0, .int 0])), ((b 3), .inl (g 4, 8, .inr (.inr (.inr (.inr (va_up fo (nI jx).toNatClampNeg (some (u_60.1)))))))), ((u_60.1), .inl (g 0, (i + 1), .inl (u_60.2))), ((b 1), .inl (g 0, 200, .inl (upd fk (nI i).toNatClampNeg x_59))), ((b 2), .inl (g 0, 200, .inl (upd fm (nI i).toNatClampNeg 0)))] H_60 := hP
                  have hD : va_D A [((b 0), .inr (15, [.int (cd (TOKb (nI jx)) true true), .ref (b 1), .ref (b 2), .int (nI (i + 1)), .ref (b 3), .ref (b 4), .ref (b 5), .null, .ref (b 6), .int 0, .int 0, .int 0, .int 0, .int 0])), ((b 3), .inl (g 4, 8, .inr (.inr (.inr (.inr (va_up fo (nI jx).toNatClampNeg (some (u_60.1)))))))), ((u_60.1), .inl (g 0, (i + 1), .inl (u_60.2))), ((b 1), .inl (g 0, 200, .inl (upd fk (nI i).toNatClampNeg x_59))), ((b 2), .inl (g 0, 200, .inl (upd fm (nI i).toNatClampNeg 0)))] := hD
                  refine W.widen (k := i + 1) (n := 101 * i + 101) (by omega) (by omega) ?_
                  refine lv_iinc (v := (nI (i + 1))) (lv' := [(7, .int (nI (i + 1))), (0, .ref (b 0)), (1, .int (nI jx)), (2, .int f), (3, .int sp), (4, .int (nI M))]) hx hb dX13_fill_124 hl (k := 0) rfl (nI_1 _) (by decide) rfl (fun ls hl => ?_)
                  refine lv_goto (tgt := 105) hx hb dX13_fill_127 (by decide) ?_
                  refine W.widen (k := (i + 1)) (n := 101 * (i + 1)) (by omega) (by omega) ?_
                  exact ih (i + 1) (by omega) (by omega) (upd fk (nI i).toNatClampNeg x_59) (upd fm (nI i).toNatClampNeg 0) (u_60.2) (va_up fo (nI jx).toNatClampNeg (some (u_60.1))) (u_60.1) _ _ (by rw [nI_clamp (show jx < 2 ^ 31 by omega)]; simp [va_up]) (hP.sub [0, 1, 2, 3, 4] rfl) (hD.sub [0, 1, 2, 3, 4] (by decide) rfl) hS _ (lv_sub hl [0, 1, 2, 3, 4, 5] rfl)
            refine W.widen (k := 0) (n := 101 * 0) (by omega) (by omega) ?_
            exact LOOP105 (M + 1) 0 (Nat.zero_le _) (by omega) (fun _ => 0) (fun _ => 0) (fun _ => 0) (fun i => if i < 8 then some (r1 i) else none) (r1 jx) _ _ (show (if jx < 8 then some (r1 jx) else none) = some (r1 jx) from if_pos hjx) (hP.sub [0, 1, 2, 3, 4] rfl) (hD.sub [0, 1, 2, 3, 4] (by decide) rfl) hS _ (lv_sub hl [0, 3, 4, 5, 6, 7] rfl)
        · refine lv_iload_n hx hb dX13_fill_55 rfl (lv_at hl 4 rfl) ?_
          refine lv_iload hx hb dX13_fill_56 (lv_at hl 6 rfl) ?_
          refine lv_iconst (v := 1) hx hb dX13_fill_58 (by decide) ?_
          refine lv_isub hx hb dX13_fill_59 ?_
          refine lv_iload_n hx hb dX13_fill_60 rfl (lv_at hl 5 rfl) ?_
          refine lv_imul hx hb dX13_fill_61 ?_
          refine W.eq (g2 := F0 m 62 ls [.int (sp * (mn - 1)), .int f, .int (b2i (TOKb x)), .ref (b 0)]) (by rw [Int32.mul_comm]) ?_
          refine lv_iadd hx hb dX13_fill_62 ?_
          refine va_calli (va_runS (As := [.int (f + (sp * (mn - 1)))]) (rest := [.int (b2i (TOKb x)), .ref (b 0)]) ⟨hx, hb, hml, hown, hts⟩ (c_X13_isKey l dC dI g (modW b r1 r2 g th) (f + (sp * (mn - 1)))   H_32.size) (va_cwS 1 hts gX13_fill_X13_isKey rfl rfl rfl (by decide +kernel) ⟨Nat.le_of_ble_eq_true rfl, Nat.le_of_ble_eq_true rfl⟩) ⟨PG_blind, PG_call hK hG hS hP hD (A_all hD hA hS.1)⟩ rfl rfl hl.1 rfl (lv_room (Nat.le_of_ble_eq_true rfl)) dX13_fill_63 ⟨Nat.le_of_ble_eq_true rfl, Nat.le_of_ble_eq_true rfl⟩) hS (fun q _ h => (A_all hD hA hS.1) q h) (A_all hD hA hS.1) (fun r_61 u_61 t_61 H_61 L_61 ht_61 hvm_61 hw_61 hB_61 hz_61 hk_61 hS => ?_)
          replace hB_61 := (show va_P (dC, dI) vwCl (modW b r1 r2 g th) t_61.heap from hB_61)
          rw [ht_61] at hB_61
          have hP := hB_61
          obtain rfl : r_61 = b2i (rngb (f + (sp * (mn - 1))) (-999) 999) := hw_61
          refine lv_if_eq (tgt := 73) hx hb dX13_fill_66 (by decide) (fun c_62 => ?_) (fun c_62 => ?_)
          · have hB_63 : (rngb (f + (sp * (mn - 1))) (-999) 999) = false := b2i_0 c_62
            refine lv_iconst (v := 0) hx hb dX13_fill_73 (by decide) ?_
            refine lv_iload hx hb dX13_fill_74 (lv_at hl 1 rfl) ?_
            refine lv_if_eq (tgt := 93) hx hb dX13_fill_76 (by decide) (fun c_64 => ?_) (fun c_64 => ?_)
            · have hB_65 : (TOKb x) = false := b2i_0 c_64
              refine lv_iconst (v := 0) hx hb dX13_fill_93 (by decide) ?_
              refine va_calli (va_runV (As := [.int (b2i (TOKb x)), .int 0, .int 0]) (rest := []) ⟨hx, hb, hml, hown, hts⟩ (c_X13_passes l dC dI g b r1 r2 th (TOKb x) false false  H_61.size) (cwV 3 hts gX13_fill_X13_passes rfl rfl rfl (by decide +kernel) ⟨Nat.le_of_ble_eq_true rfl, Nat.le_of_ble_eq_true rfl⟩) ⟨PG_blind, va_recv hK hP (ci := 15) (q0 := 0) rfl (m_0 b r1 r2 g th), PG_call hK hG hS hP hD (A_all hD hA hS.1)⟩ rfl rfl hl.1 rfl (lv_room (Nat.le_of_ble_eq_true rfl)) dX13_fill_94 ⟨Nat.le_of_ble_eq_true rfl, Nat.le_of_ble_eq_true rfl⟩) hS (fun q _ h => (A_all hD hA hS.1) q h) (A_all hD hA hS.1) (fun r_66 u_66 t_66 H_66 L_66 ht_66 hvm_66 hw_66 hB_66 hz_66 hk_66 hS => ?_)
              rw [ht_66] at hB_66
              have hP : va_P (dC, dI) vwCl (modW b r1 r2 g (cd (TOKb x) false false)) H_66 := hB_66
              have hD : va_D A (modW b r1 r2 g (cd (TOKb x) false false)) := va_D_th hD
              obtain rfl : r_66 = 0 := hw_66.trans (by simp [b2i, hB_65])
              refine lv_if_ne (tgt := 102) hx hb dX13_fill_97 (by decide) (fun c_67 => absurd (by decide) c_67) (fun c_67 => ?_)
              refine lv_iconst (v := 0) hx hb dX13_fill_100 (by decide) ?_
              refine W.widen (k := 50) (n := 5050) (by omega) (by omega) ?_
              have hcd : (cd (TOKb x) false false) = (cd (TOKb x) (rngb f (-999) 999 && rngb sp (-50) 50 && rngb mn 0 50 && (decide (mn = 0) || rngb (f + (sp * (mn - 1))) (-999) 999)) true) := by simp [cd, hB_4, hB_19, hB_34, hB_63, hB_65, (decide_eq_false c_48)]
              have hP8 := hP.sub (ws' := [((b 0), .inr (15, [.int (cd (TOKb x) false false), .ref (b 1), .ref (b 2), .int 0, .ref (b 3), .ref (b 4), .ref (b 5), .null, .ref (b 6), .int 0, .int 0, .int 0, .int 0, .int 0]))]) [0] rfl
              rw [hcd] at hP8
              exact W.iret (v := 0) hx hb hr (fun t ht hW => ⟨⟨0, (), rfl, (fun h => by first | rfl | (exact absurd (cd_0.mp h) (by simp [hB_4, hB_19, hB_34, hB_63, hB_65, (decide_eq_false c_48)]))), ⟨[.ref (b 1), .ref (b 2), .int 0, .ref (b 3), .ref (b 4), .ref (b 5), .null, .ref (b 6), .int 0, .int 0, .int 0, .int 0, .int 0], P_at ht hP8⟩⟩, hS.F ht⟩) hS.2.2 dX13_fill_101
            · have hB_65 : (TOKb x) = true := b2i_1 c_64
              obtain ⟨jx, hjx, rfl⟩ := TOK_ex hB_65
              refine lv_aload_n hx hb dX13_fill_79 rfl (lv_at hl 2 rfl) ?_
              refine lv_iload_n hx hb dX13_fill_80 rfl (lv_at hl 3 rfl) ?_
              refine lv_iload hx hb dX13_fill_81 (lv_at hl 6 rfl) ?_
              refine va_calli (va_runV (As := [.int (nI jx), .int mn]) (rest := [.int 0, .int (b2i (TOKb (nI jx))), .ref (b 0)]) ⟨hx, hb, hml, hown, hts⟩ (c_X13_haveRoom l dC dI g b r1 r2 jx mn th hjx H_61.size) (cwV 2 hts gX13_fill_X13_haveRoom rfl rfl rfl (by decide +kernel) ⟨Nat.le_of_ble_eq_true rfl, Nat.le_of_ble_eq_true rfl⟩) ⟨PG_blind, va_recv hK hP (ci := 15) (q0 := 0) rfl (m_0 b r1 r2 g th), PG_call hK hG hS hP hD (A_all hD hA hS.1)⟩ rfl rfl hl.1 rfl (lv_room (Nat.le_of_ble_eq_true rfl)) dX13_fill_83 ⟨Nat.le_of_ble_eq_true rfl, Nat.le_of_ble_eq_true rfl⟩) hS (fun q _ h => (A_all hD hA hS.1) q h) (A_all hD hA hS.1) (fun r_68 u_68 t_68 H_68 L_68 ht_68 hvm_68 hw_68 hB_68 hz_68 hk_68 hS => ?_)
              replace hB_68 := (show va_P (dC, dI) vwCl (modW b r1 r2 g th) t_68.heap from hB_68)
              rw [ht_68] at hB_68
              have hP := hB_68
              obtain rfl : r_68 = 1 := hw_68.trans (by rw [hrm_t hB_34]; rfl)
              refine lv_if_eq (tgt := 93) hx hb dX13_fill_86 (by decide) (fun c_69 => absurd c_69 (by decide)) (fun c_69 => ?_)
              refine lv_iconst (v := 1) hx hb dX13_fill_89 (by decide) ?_
              refine lv_goto (tgt := 94) hx hb dX13_fill_90 (by decide) ?_
              refine va_calli (va_runV (As := [.int (b2i (TOKb (nI jx))), .int 0, .int 1]) (rest := []) ⟨hx, hb, hml, hown, hts⟩ (c_X13_passes l dC dI g b r1 r2 th (TOKb (nI jx)) false true  H_68.size) (cwV 3 hts gX13_fill_X13_passes rfl rfl rfl (by decide +kernel) ⟨Nat.le_of_ble_eq_true rfl, Nat.le_of_ble_eq_true rfl⟩) ⟨PG_blind, va_recv hK hP (ci := 15) (q0 := 0) rfl (m_0 b r1 r2 g th), PG_call hK hG hS hP hD (A_all hD hA hS.1)⟩ rfl rfl hl.1 rfl (lv_room (Nat.le_of_ble_eq_true rfl)) dX13_fill_94 ⟨Nat.le_of_ble_eq_true rfl, Nat.le_of_ble_eq_true rfl⟩) hS (fun q _ h => (A_all hD hA hS.1) q h) (A_all hD hA hS.1) (fun r_70 u_70 t_70 H_70 L_70 ht_70 hvm_70 hw_70 hB_70 hz_70 hk_70 hS => ?_)
              rw [ht_70] at hB_70
              have hP : va_P (dC, dI) vwCl (modW b r1 r2 g (cd (TOKb (nI jx)) false true)) H_70 := hB_70
              have hD : va_D A (modW b r1 r2 g (cd (TOKb (nI jx)) false true)) := va_D_th hD
              obtain rfl : r_70 = 0 := hw_70.trans (by simp [b2i, (TOK_j hjx rfl)])
              refine lv_if_ne (tgt := 102) hx hb dX13_fill_97 (by decide) (fun c_71 => absurd (by decide) c_71) (fun c_71 => ?_)
              refine lv_iconst (v := 0) hx hb dX13_fill_100 (by decide) ?_
              refine W.widen (k := 50) (n := 5050) (by omega) (by omega) ?_
              have hcd : (cd (TOKb (nI jx)) false true) = (cd (TOKb (nI jx)) (rngb f (-999) 999 && rngb sp (-50) 50 && rngb mn 0 50 && (decide (mn = 0) || rngb (f + (sp * (mn - 1))) (-999) 999)) true) := by simp [cd, hB_4, hB_19, hB_34, hB_63, (TOK_j hjx rfl), (decide_eq_false c_48)]
              have hP8 := hP.sub (ws' := [((b 0), .inr (15, [.int (cd (TOKb (nI jx)) false true), .ref (b 1), .ref (b 2), .int 0, .ref (b 3), .ref (b 4), .ref (b 5), .null, .ref (b 6), .int 0, .int 0, .int 0, .int 0, .int 0]))]) [0] rfl
              rw [hcd] at hP8
              exact W.iret (v := 0) hx hb hr (fun t ht hW => ⟨⟨0, (), rfl, (fun h => by first | rfl | (exact absurd (cd_0.mp h) (by simp [hB_4, hB_19, hB_34, hB_63, (TOK_j hjx rfl), (decide_eq_false c_48)]))), ⟨[.ref (b 1), .ref (b 2), .int 0, .ref (b 3), .ref (b 4), .ref (b 5), .null, .ref (b 6), .int 0, .int 0, .int 0, .int 0, .int 0], P_at ht hP8⟩⟩, hS.F ht⟩) hS.2.2 dX13_fill_101
          · have hB_63 : (rngb (f + (sp * (mn - 1))) (-999) 999) = true := b2i_1 c_62
            refine lv_iconst (v := 1) hx hb dX13_fill_69 (by decide) ?_
            refine lv_goto (tgt := 74) hx hb dX13_fill_70 (by decide) ?_
            refine lv_iload hx hb dX13_fill_74 (lv_at hl 1 rfl) ?_
            refine lv_if_eq (tgt := 93) hx hb dX13_fill_76 (by decide) (fun c_72 => ?_) (fun c_72 => ?_)
            · have hB_73 : (TOKb x) = false := b2i_0 c_72
              refine lv_iconst (v := 0) hx hb dX13_fill_93 (by decide) ?_
              refine va_calli (va_runV (As := [.int (b2i (TOKb x)), .int 1, .int 0]) (rest := []) ⟨hx, hb, hml, hown, hts⟩ (c_X13_passes l dC dI g b r1 r2 th (TOKb x) true false  H_61.size) (cwV 3 hts gX13_fill_X13_passes rfl rfl rfl (by decide +kernel) ⟨Nat.le_of_ble_eq_true rfl, Nat.le_of_ble_eq_true rfl⟩) ⟨PG_blind, va_recv hK hP (ci := 15) (q0 := 0) rfl (m_0 b r1 r2 g th), PG_call hK hG hS hP hD (A_all hD hA hS.1)⟩ rfl rfl hl.1 rfl (lv_room (Nat.le_of_ble_eq_true rfl)) dX13_fill_94 ⟨Nat.le_of_ble_eq_true rfl, Nat.le_of_ble_eq_true rfl⟩) hS (fun q _ h => (A_all hD hA hS.1) q h) (A_all hD hA hS.1) (fun r_74 u_74 t_74 H_74 L_74 ht_74 hvm_74 hw_74 hB_74 hz_74 hk_74 hS => ?_)
              rw [ht_74] at hB_74
              have hP : va_P (dC, dI) vwCl (modW b r1 r2 g (cd (TOKb x) true false)) H_74 := hB_74
              have hD : va_D A (modW b r1 r2 g (cd (TOKb x) true false)) := va_D_th hD
              obtain rfl : r_74 = 0 := hw_74.trans (by simp [b2i, hB_73])
              refine lv_if_ne (tgt := 102) hx hb dX13_fill_97 (by decide) (fun c_75 => absurd (by decide) c_75) (fun c_75 => ?_)
              refine lv_iconst (v := 0) hx hb dX13_fill_100 (by decide) ?_
              refine W.widen (k := 50) (n := 5050) (by omega) (by omega) ?_
              have hcd : (cd (TOKb x) true false) = (cd (TOKb x) (rngb f (-999) 999 && rngb sp (-50) 50 && rngb mn 0 50 && (decide (mn = 0) || rngb (f + (sp * (mn - 1))) (-999) 999)) true) := by simp [cd, hB_4, hB_19, hB_34, hB_63, hB_73, (decide_eq_false c_48)]
              have hP8 := hP.sub (ws' := [((b 0), .inr (15, [.int (cd (TOKb x) true false), .ref (b 1), .ref (b 2), .int 0, .ref (b 3), .ref (b 4), .ref (b 5), .null, .ref (b 6), .int 0, .int 0, .int 0, .int 0, .int 0]))]) [0] rfl
              rw [hcd] at hP8
              exact W.iret (v := 0) hx hb hr (fun t ht hW => ⟨⟨0, (), rfl, (fun h => by first | rfl | (exact absurd (cd_0.mp h) (by simp [hB_4, hB_19, hB_34, hB_63, hB_73, (decide_eq_false c_48)]))), ⟨[.ref (b 1), .ref (b 2), .int 0, .ref (b 3), .ref (b 4), .ref (b 5), .null, .ref (b 6), .int 0, .int 0, .int 0, .int 0, .int 0], P_at ht hP8⟩⟩, hS.F ht⟩) hS.2.2 dX13_fill_101
            · have hB_73 : (TOKb x) = true := b2i_1 c_72
              obtain ⟨jx, hjx, rfl⟩ := TOK_ex hB_73
              refine lv_aload_n hx hb dX13_fill_79 rfl (lv_at hl 2 rfl) ?_
              refine lv_iload_n hx hb dX13_fill_80 rfl (lv_at hl 3 rfl) ?_
              refine lv_iload hx hb dX13_fill_81 (lv_at hl 6 rfl) ?_
              refine va_calli (va_runV (As := [.int (nI jx), .int mn]) (rest := [.int 1, .int (b2i (TOKb (nI jx))), .ref (b 0)]) ⟨hx, hb, hml, hown, hts⟩ (c_X13_haveRoom l dC dI g b r1 r2 jx mn th hjx H_61.size) (cwV 2 hts gX13_fill_X13_haveRoom rfl rfl rfl (by decide +kernel) ⟨Nat.le_of_ble_eq_true rfl, Nat.le_of_ble_eq_true rfl⟩) ⟨PG_blind, va_recv hK hP (ci := 15) (q0 := 0) rfl (m_0 b r1 r2 g th), PG_call hK hG hS hP hD (A_all hD hA hS.1)⟩ rfl rfl hl.1 rfl (lv_room (Nat.le_of_ble_eq_true rfl)) dX13_fill_83 ⟨Nat.le_of_ble_eq_true rfl, Nat.le_of_ble_eq_true rfl⟩) hS (fun q _ h => (A_all hD hA hS.1) q h) (A_all hD hA hS.1) (fun r_76 u_76 t_76 H_76 L_76 ht_76 hvm_76 hw_76 hB_76 hz_76 hk_76 hS => ?_)
              replace hB_76 := (show va_P (dC, dI) vwCl (modW b r1 r2 g th) t_76.heap from hB_76)
              rw [ht_76] at hB_76
              have hP := hB_76
              obtain rfl : r_76 = 1 := hw_76.trans (by rw [hrm_t hB_34]; rfl)
              refine lv_if_eq (tgt := 93) hx hb dX13_fill_86 (by decide) (fun c_77 => absurd c_77 (by decide)) (fun c_77 => ?_)
              refine lv_iconst (v := 1) hx hb dX13_fill_89 (by decide) ?_
              refine lv_goto (tgt := 94) hx hb dX13_fill_90 (by decide) ?_
              refine va_calli (va_runV (As := [.int (b2i (TOKb (nI jx))), .int 1, .int 1]) (rest := []) ⟨hx, hb, hml, hown, hts⟩ (c_X13_passes l dC dI g b r1 r2 th (TOKb (nI jx)) true true  H_76.size) (cwV 3 hts gX13_fill_X13_passes rfl rfl rfl (by decide +kernel) ⟨Nat.le_of_ble_eq_true rfl, Nat.le_of_ble_eq_true rfl⟩) ⟨PG_blind, va_recv hK hP (ci := 15) (q0 := 0) rfl (m_0 b r1 r2 g th), PG_call hK hG hS hP hD (A_all hD hA hS.1)⟩ rfl rfl hl.1 rfl (lv_room (Nat.le_of_ble_eq_true rfl)) dX13_fill_94 ⟨Nat.le_of_ble_eq_true rfl, Nat.le_of_ble_eq_true rfl⟩) hS (fun q _ h => (A_all hD hA hS.1) q h) (A_all hD hA hS.1) (fun r_78 u_78 t_78 H_78 L_78 ht_78 hvm_78 hw_78 hB_78 hz_78 hk_78 hS => ?_)
              rw [ht_78] at hB_78
              have hP : va_P (dC, dI) vwCl (modW b r1 r2 g (cd (TOKb (nI jx)) true true)) H_78 := hB_78
              have hD : va_D A (modW b r1 r2 g (cd (TOKb (nI jx)) true true)) := va_D_th hD
              obtain rfl : r_78 = 1 := hw_78.trans (by simp [b2i, (TOK_j hjx rfl)])
              refine lv_if_ne (tgt := 102) hx hb dX13_fill_97 (by decide) (fun c_79 => ?_) (fun c_79 => absurd c_79 (by decide))
              refine lv_iconst (v := 0) hx hb dX13_fill_102 (by decide) ?_
              refine lv_istore (lv' := [(7, .int 0), (6, .int 1), (5, .int (b2i (TOKb (nI jx)))), (0, .ref (b 0)), (1, .int (nI jx)), (2, .int f), (3, .int sp), (4, .int mn)]) hx hb dX13_fill_103 hl (by decide) rfl (fun ls hl => ?_)
              obtain ⟨M, hM, rfl⟩ := rng_ex (n := 50) hB_34 (by decide)
              obtain ⟨hP, hD⟩ := mod_x b r1 r2 g (cd (TOKb (nI jx)) true true) jx hjx hP hD
              replace hP := hP.sub (ws' := [((b 0), .inr (15, [.int (cd (TOKb (nI jx)) true true), .ref (b 1), .ref (b 2), .int (nI 0), .ref (b 3), .ref (b 4), .ref (b 5), .null, .ref (b 6), .int 0, .int 0, .int 0, .int 0, .int 0])), ((b 3), .inl (g 4, 8, .inr (.inr (.inr (.inr (fun i => if i < 8 then some (r1 i) else none)))))), ((r1 jx), .inl (g 0, 0, .inl (fun _ => 0))), ((b 1), .inl (g 0, 200, .inl (fun _ => 0))), ((b 2), .inl (g 0, 200, .inl (fun _ => 0)))]) [0, 1, 2, 3, 4] rfl
              replace hD := hD.sub (ws' := [((b 0), .inr (15, [.int (cd (TOKb (nI jx)) true true), .ref (b 1), .ref (b 2), .int (nI 0), .ref (b 3), .ref (b 4), .ref (b 5), .null, .ref (b 6), .int 0, .int 0, .int 0, .int 0, .int 0])), ((b 3), .inl (g 4, 8, .inr (.inr (.inr (.inr (fun i => if i < 8 then some (r1 i) else none)))))), ((r1 jx), .inl (g 0, 0, .inl (fun _ => 0))), ((b 1), .inl (g 0, 200, .inl (fun _ => 0))), ((b 2), .inl (g 0, 200, .inl (fun _ => 0)))]) [0, 1, 2, 3, 4] (by decide) rfl
              have hP : va_P (dC, dI) vwCl [((b 0), .inr (15, [.int (cd (TOKb (nI jx)) true true), .ref (b 1), .ref (b 2), .int (nI 0), .ref (b 3), .ref (b 4), .ref (b 5), .null, .ref (b 6), .int 0, .int 0, .int 0, .int 0, .int 0])), ((b 3), .inl (g 4, 8, .inr (.inr (.inr (.inr (fun i => if i < 8 then some (r1 i) else none)))))), ((r1 jx), .inl (g 0, 0, .inl (fun _ => 0))), ((b 1), .inl (g 0, 200, .inl (fun _ => 0))), ((b 2), .inl (g 0, 200, .inl (fun _ => 0)))] H_78 := hP
              have hD : va_D A [((b 0), .inr (15, [.int (cd (TOKb (nI jx)) true true), .ref (b 1), .ref (b 2), .int (nI 0), .ref (b 3), .ref (b 4), .ref (b 5), .null, .ref (b 6), .int 0, .int 0, .int 0, .int 0, .int 0])), ((b 3), .inl (g 4, 8, .inr (.inr (.inr (.inr (fun i => if i < 8 then some (r1 i) else none)))))), ((r1 jx), .inl (g 0, 0, .inl (fun _ => 0))), ((b 1), .inl (g 0, 200, .inl (fun _ => 0))), ((b 2), .inl (g 0, 200, .inl (fun _ => 0)))] := hD
              refine W_abs (fun Q hQ => ?_)
              have LOOP105 : ∀ (n i : Nat), i ≤ M → M < i + n → ∀ (fk : Nat → Int32) (fm : Nat → Int32) (fr : Nat → Int32) (fo : Nat → Option Nat) (q : Nat) (H : Heap) (locs : List Loc), fo jx = some q → va_P (dC, dI) vwCl [((b 0), .inr (15, [.int (cd (TOKb (nI jx)) true true), .ref (b 1), .ref (b 2), .int (nI i), .ref (b 3), .ref (b 4), .ref (b 5), .null, .ref (b 6), .int 0, .int 0, .int 0, .int 0, .int 0])), ((b 3), .inl (g 4, 8, .inr (.inr (.inr (.inr fo))))), (q, .inl (g 0, i, .inl fr)), ((b 1), .inl (g 0, 200, .inl fk)), ((b 2), .inl (g 0, 200, .inl fm))] H → va_D A [((b 0), .inr (15, [.int (cd (TOKb (nI jx)) true true), .ref (b 1), .ref (b 2), .int (nI i), .ref (b 3), .ref (b 4), .ref (b 5), .null, .ref (b 6), .int 0, .int 0, .int 0, .int 0, .int 0])), ((b 3), .inl (g 4, 8, .inr (.inr (.inr (.inr fo))))), (q, .inl (g 0, i, .inl fr)), ((b 1), .inl (g 0, 200, .inl fk)), ((b 2), .inl (g 0, 200, .inl fm))] → va_S A s.heap H locs → ∀ (ls : Array Slot), lv_has ls 8 [(7, .int (nI i)), (0, .ref (b 0)), (1, .int (nI jx)), (2, .int f), (3, .int sp), (4, .int (nI M))] → W p l e (headSpec wsX13_fill ({ frames := 2, cells := 50, slots := 5050, locals := 42 })).room s m ([.ref (b 0), .int (nI jx), .int f, .int sp, .int (nI M)] : List Value).toArray below meth c H locs (i) (101 * i) Q (F0 m 105 ls []) := by
                intro n
                induction n with
                | zero =>
                  intro i h1 h2
                  exact absurd h2 (by omega)
                | succ n ih =>
                  intro i hi hin fk fm fr fo q H locs hfo hP hD hS ls hl
                  refine lv_iload hx hb dX13_fill_105 (lv_at hl 0 rfl) ?_
                  refine lv_iload hx hb dX13_fill_107 (lv_at hl 5 rfl) ?_
                  refine lv_icmp_ge (tgt := 130) hx hb dX13_fill_109 (by decide) (fun c_80 => ?_) (fun c_80 => ?_)
                  · have h9 := (nI_leI (by omega) (by omega)).mp c_80
                    obtain rfl : M = i := by omega
                    refine lv_aload_n hx hb dX13_fill_130 rfl (lv_at hl 1 rfl) ?_
                    refine va_get (D := (dC, dI)) (ci := 15) (v := .ref (b 3)) (C := RX13) (T := TX13) (N := 14) hx hb hts hiX13 hown hK hP 0 rfl rfl 4 (by decide) hf29 (fun _ h9 => h9) rfl dX13_fill_131 ?_
                    refine lv_iload_n hx hb dX13_fill_134 rfl (lv_at hl 2 rfl) ?_
                    refine va_aldA hx hb hK hP 1 rfl (vp_in_nI hjx (by decide)) dX13_fill_135 ?_
                    refine W.eq (g2 := F0 m 136 ls [.ref q]) (by rw [nI_clamp (show jx < 2 ^ 31 by omega), hfo]; rfl) ?_
                    refine va_alen hx hb hK hP 2 0 rfl rfl (v := nI M) rfl dX13_fill_136 ?_
                    refine W.widen (k := 50) (n := 5050) (by omega) (by omega) ?_
                    subst hQ
                    have hcd : (cd (TOKb (nI jx)) true true) = (cd (TOKb (nI jx)) (rngb f (-999) 999 && rngb sp (-50) 50 && rngb (nI M) 0 50 && (decide ((nI M) = 0) || rngb (f + (sp * ((nI M) - 1))) (-999) 999)) true) := by simp [cd, hB_4, hB_19, hB_34, hB_63, (TOK_j hjx rfl), (decide_eq_false c_48)]
                    have hP8 := hP.sub (ws' := [((b 0), .inr (15, [.int (cd (TOKb (nI jx)) true true), .ref (b 1), .ref (b 2), .int (nI M), .ref (b 3), .ref (b 4), .ref (b 5), .null, .ref (b 6), .int 0, .int 0, .int 0, .int 0, .int 0]))]) [0] rfl
                    rw [hcd] at hP8
                    exact W.iret (v := (nI M)) hx hb hr (fun t ht hW => ⟨⟨(nI M), (), rfl, (fun h => by first | rfl | (exact absurd (cd_0.mp h) (by simp [hB_4, hB_19, hB_34, hB_63, (TOK_j hjx rfl), (decide_eq_false c_48)]))), ⟨[.ref (b 1), .ref (b 2), .int (nI M), .ref (b 3), .ref (b 4), .ref (b 5), .null, .ref (b 6), .int 0, .int 0, .int 0, .int 0, .int 0], P_at ht hP8⟩⟩, hS.F ht⟩) hS.2.2 dX13_fill_137
                  · have hlt : i < M := by
                      rcases Nat.lt_or_ge i M with q | q
                      · exact q
                      · exact absurd (nI_le q (by omega)) c_80
                    refine lv_aload_n hx hb dX13_fill_112 rfl (lv_at hl 1 rfl) ?_
                    refine lv_iload_n hx hb dX13_fill_113 rfl (lv_at hl 2 rfl) ?_
                    refine lv_iload_n hx hb dX13_fill_114 rfl (lv_at hl 3 rfl) ?_
                    refine lv_iload hx hb dX13_fill_115 (lv_at hl 0 rfl) ?_
                    refine lv_iload_n hx hb dX13_fill_117 rfl (lv_at hl 4 rfl) ?_
                    refine lv_imul hx hb dX13_fill_118 ?_
                    refine lv_topi (fun x_81 ex_81 => ?_)
                    refine lv_iadd hx hb dX13_fill_119 ?_
                    refine lv_topi (fun x_82 ex_82 => ?_)
                    refine lv_iconst (v := 0) hx hb dX13_fill_120 (by decide) ?_
                    have hPc := hP.sub (ws' := [((b 0), .inr (15, [.int (cd (TOKb (nI jx)) true true), .ref (b 1), .ref (b 2), .int (nI i), .ref (b 3), .ref (b 4), .ref (b 5), .null, .ref (b 6), .int 0, .int 0, .int 0, .int 0, .int 0])), ((b 3), .inl (g 4, 8, .inr (.inr (.inr (.inr fo))))), (q, .inl (g 0, i, .inl fr)), ((b 1), .inl (g 0, 200, .inl fk)), ((b 2), .inl (g 0, 200, .inl fm))]) [0, 1, 2, 3, 4] rfl
                    have hDc := hD.sub (ws' := [((b 0), .inr (15, [.int (cd (TOKb (nI jx)) true true), .ref (b 1), .ref (b 2), .int (nI i), .ref (b 3), .ref (b 4), .ref (b 5), .null, .ref (b 6), .int 0, .int 0, .int 0, .int 0, .int 0])), ((b 3), .inl (g 4, 8, .inr (.inr (.inr (.inr fo))))), (q, .inl (g 0, i, .inl fr)), ((b 1), .inl (g 0, 200, .inl fk)), ((b 2), .inl (g 0, 200, .inl fm))]) [0, 1, 2, 3, 4] (by decide) rfl
                    have hFc := va_free (wc := [((b 0), .inr (15, [.int (cd (TOKb (nI jx)) true true), .ref (b 1), .ref (b 2), .int (nI i), .ref (b 3), .ref (b 4), .ref (b 5), .null, .ref (b 6), .int 0, .int 0, .int 0, .int 0, .int 0])), ((b 3), .inl (g 4, 8, .inr (.inr (.inr (.inr fo))))), (q, .inl (g 0, i, .inl fr)), ((b 1), .inl (g 0, 200, .inl fk)), ((b 2), .inl (g 0, 200, .inl fm))]) hD hS hA [0, 1, 2, 3, 4] rfl
                    refine va_callv (va_runV (As := [.int (nI jx), .int x_82, .int 0]) (rest := []) ⟨hx, hb, hml, hown, hts⟩ (c_X13_comes l dC dI g b r1 r2 jx q i fo fr fk fm x_82 0 (cd (TOKb (nI jx)) true true) hjx hfo (by omega) H.size) (cwV 3 hts gX13_fill_X13_comes rfl rfl rfl (by decide +kernel) ⟨Nat.le_of_ble_eq_true rfl, Nat.le_of_ble_eq_true rfl⟩) ⟨PG_blind, va_recv hK hP (ci := 15) (q0 := 0) rfl rfl, PG_call hK hG hS hPc hDc hFc⟩ rfl rfl hl.1 rfl (lv_room (Nat.le_of_ble_eq_true rfl)) dX13_fill_121 ⟨Nat.le_trans (show i + 1 ≤ 50 by omega) (Nat.le_of_ble_eq_true rfl), Nat.le_trans (show 101 * i + 101 ≤ 5050 by omega) (Nat.le_of_ble_eq_true rfl)⟩) hS (fun q _ h => hFc q h) hFc (fun u_83 t_83 H_83 L_83 ht_83 hvm_83 hw_83 hB_83 hz_83 hk_83 hS => ?_)
                    obtain ⟨hP1, hD1⟩ := hB_83
                    rw [ht_83] at hP1
                    obtain ⟨hP, hD⟩ := va_join (wr := []) (w1 := [((b 0), .inr (15, [.int (cd (TOKb (nI jx)) true true), .ref (b 1), .ref (b 2), .int (nI (i + 1)), .ref (b 3), .ref (b 4), .ref (b 5), .null, .ref (b 6), .int 0, .int 0, .int 0, .int 0, .int 0])), ((b 3), .inl (g 4, 8, .inr (.inr (.inr (.inr (va_up fo (nI jx).toNatClampNeg (some (u_83.1)))))))), ((u_83.1), .inl (g 0, (i + 1), .inl (u_83.2))), ((b 1), .inl (g 0, 200, .inl (upd fk (nI i).toNatClampNeg x_82))), ((b 2), .inl (g 0, 200, .inl (upd fm (nI i).toNatClampNeg 0)))]) hP hD [0, 1, 2, 3, 4] [] rfl rfl (by decide) (by decide) hk_83 hFc hP1 hD1
                    have hP : va_P (dC, dI) vwCl [((b 0), .inr (15, [.int (cd (TOKb (nI jx)) true true), .ref (b 1), .ref (b 2), .int (nI (i + 1)), .ref (b 3), .ref (b 4), .ref (b 5), .null, .ref (b 6), .int 0, .int 0, .int 0, .int 0, .int 0])), ((b 3), .inl (g 4, 8, .inr (.inr (.inr (.inr (va_up fo (nI jx).toNatClampNeg (some (u_83.1)))))))), ((u_83.1), .inl (g 0, (i + 1), .inl (u_83.2))), ((b 1), .inl (g 0, 200, .inl (upd fk (nI i).toNatClampNeg x_82))), ((b 2), .inl (g 0, 200, .inl (upd fm (nI i).toNatClampNeg 0)))] H_83 := hP
                    have hD : va_D A [((b 0), .inr (15, [.int (cd (TOKb (nI jx)) true true), .ref (b 1), .ref (b 2), .int (nI (i + 1)), .ref (b 3), .ref (b 4), .ref (b 5), .null, .ref (b 6), .int 0, .int 0, .int 0, .int 0, .int 0])), ((b 3), .inl (g 4, 8, .inr (.inr (.inr (.inr (va_up fo (nI jx).toNatClampNeg (some (u_83.1)))))))), ((u_83.1), .inl (g 0, (i + 1), .inl (u_83.2))), ((b 1), .inl (g 0, 200, .inl (upd fk (nI i).toNatClampNeg x_82))), ((b 2), .inl (g 0, 200, .inl (upd fm (nI i).toNatClampNeg 0)))] := hD
                    refine W.widen (k := i + 1) (n := 101 * i + 101) (by omega) (by omega) ?_
                    refine lv_iinc (v := (nI (i + 1))) (lv' := [(7, .int (nI (i + 1))), (0, .ref (b 0)), (1, .int (nI jx)), (2, .int f), (3, .int sp), (4, .int (nI M))]) hx hb dX13_fill_124 hl (k := 0) rfl (nI_1 _) (by decide) rfl (fun ls hl => ?_)
                    refine lv_goto (tgt := 105) hx hb dX13_fill_127 (by decide) ?_
                    refine W.widen (k := (i + 1)) (n := 101 * (i + 1)) (by omega) (by omega) ?_
                    exact ih (i + 1) (by omega) (by omega) (upd fk (nI i).toNatClampNeg x_82) (upd fm (nI i).toNatClampNeg 0) (u_83.2) (va_up fo (nI jx).toNatClampNeg (some (u_83.1))) (u_83.1) _ _ (by rw [nI_clamp (show jx < 2 ^ 31 by omega)]; simp [va_up]) (hP.sub [0, 1, 2, 3, 4] rfl) (hD.sub [0, 1, 2, 3, 4] (by decide) rfl) hS _ (lv_sub hl [0, 1, 2, 3, 4, 5] rfl)
              refine W.widen (k := 0) (n := 101 * 0) (by omega) (by omega) ?_
              exact LOOP105 (M + 1) 0 (Nat.zero_le _) (by omega) (fun _ => 0) (fun _ => 0) (fun _ => 0) (fun i => if i < 8 then some (r1 i) else none) (r1 jx) _ _ (show (if jx < 8 then some (r1 jx) else none) = some (r1 jx) from if_pos hjx) (hP.sub [0, 1, 2, 3, 4] rfl) (hD.sub [0, 1, 2, 3, 4] (by decide) rfl) hS _ (lv_sub hl [0, 3, 4, 5, 6, 7] rfl)
