theorem dX13_type_0 : decode cX13_type 0 = .ok (.iconst 0, 1) := by decide +kernel
theorem dX13_type_1 : decode cX13_type 1 = .ok (.istore_n 3, 1) := by decide +kernel
theorem dX13_type_2 : decode cX13_type 2 = .ok (.iconst 0, 1) := by decide +kernel
theorem dX13_type_3 : decode cX13_type 3 = .ok (.istore 4, 2) := by decide +kernel
theorem dX13_type_5 : decode cX13_type 5 = .ok (.iload 4, 2) := by decide +kernel
theorem dX13_type_7 : decode cX13_type 7 = .ok (.bipush 8, 2) := by decide +kernel
theorem dX13_type_9 : decode cX13_type 9 = .ok (.if_icmp .ge 33, 3) := by decide +kernel
theorem dX13_type_42 : decode cX13_type 42 = .ok (.aload_n 0, 1) := by decide +kernel
theorem dX13_type_43 : decode cX13_type 43 = .ok (.aload_n 0, 1) := by decide +kernel
theorem dX13_type_44 : decode cX13_type 44 = .ok (.getfield 218, 3) := by decide +kernel
theorem dX13_type_47 : decode cX13_type 47 = .ok (.iload_n 3, 1) := by decide +kernel
theorem dX13_type_48 : decode cX13_type 48 = .ok (.iadd, 1) := by decide +kernel
theorem dX13_type_49 : decode cX13_type 49 = .ok (.sipush 160, 3) := by decide +kernel
theorem dX13_type_52 : decode cX13_type 52 = .ok (.if_icmp .gt 7, 3) := by decide +kernel
theorem dX13_type_55 : decode cX13_type 55 = .ok (.iconst 1, 1) := by decide +kernel
theorem dX13_type_56 : decode cX13_type 56 = .ok (.goto 4, 3) := by decide +kernel
theorem dX13_type_60 : decode cX13_type 60 = .ok (.iconst 1, 1) := by decide +kernel
theorem dX13_type_61 : decode cX13_type 61 = .ok (.iconst 1, 1) := by decide +kernel
set_option maxRecDepth 20000 in
theorem ggX13_type_X13_passes : GoodIn wsX13_type wsX13_passes := goodIn_r _ [8, 9, 10, 11, 12, 13, 14, 15, 16, 17, 18, 19, 20, 21, 22, 23] (by decide +kernel) (by decide +kernel)
set_option maxRecDepth 20000 in
theorem gX13_type_X13_passes : GoodIn wsX13_type (wsV RX13 55 RX13 yX13_passes wsX13_passes) := goodIn_app (goodIn_of _ (by decide +kernel)) ggX13_type_X13_passes
theorem dX13_type_62 : decode cX13_type 62 = .ok (.invokevirtual 55, 3) := by decide +kernel
theorem dX13_type_65 : decode cX13_type 65 = .ok (.ifCond .ne 5, 3) := by decide +kernel
theorem dX13_type_70 : decode cX13_type 70 = .ok (.bipush 7, 2) := by decide +kernel
theorem dX13_type_72 : decode cX13_type 72 = .ok (.istore 4, 2) := by decide +kernel
theorem dX13_type_74 : decode cX13_type 74 = .ok (.iload 4, 2) := by decide +kernel
theorem dX13_type_76 : decode cX13_type 76 = .ok (.ifCond .lt 49, 3) := by decide +kernel
theorem dX13_type_125 : decode cX13_type 125 = .ok (.aload_n 0, 1) := by decide +kernel
theorem dX13_type_126 : decode cX13_type 126 = .ok (.getfield 218, 3) := by decide +kernel
theorem dX13_type_129 : decode cX13_type 129 = .ok (.ireturn, 1) := by decide +kernel
theorem dX13_type_79 : decode cX13_type 79 = .ok (.lload_n 1, 1) := by decide +kernel
theorem dX13_type_80 : decode cX13_type 80 = .ok (.bipush 8, 2) := by decide +kernel
theorem dX13_type_82 : decode cX13_type 82 = .ok (.iload 4, 2) := by decide +kernel
theorem dX13_type_84 : decode cX13_type 84 = .ok (.imul, 1) := by decide +kernel
theorem dX13_type_85 : decode cX13_type 85 = .ok (.lshr, 1) := by decide +kernel
theorem dX13_type_86 : decode cX13_type 86 = .ok (.ldc2_w 216, 3) := by decide +kernel
theorem dX13_type_89 : decode cX13_type 89 = .ok (.land, 1) := by decide +kernel
theorem dX13_type_90 : decode cX13_type 90 = .ok (.l2i, 1) := by decide +kernel
theorem dX13_type_91 : decode cX13_type 91 = .ok (.istore 5, 2) := by decide +kernel
theorem dX13_type_93 : decode cX13_type 93 = .ok (.iload 5, 2) := by decide +kernel
theorem dX13_type_95 : decode cX13_type 95 = .ok (.ifCond .eq 24, 3) := by decide +kernel
theorem dX13_type_119 : decode cX13_type 119 = .ok (.iinc 4 (-1), 3) := by decide +kernel
theorem dX13_type_122 : decode cX13_type 122 = .ok (.goto (-48), 3) := by decide +kernel
theorem dX13_type_98 : decode cX13_type 98 = .ok (.aload_n 0, 1) := by decide +kernel
theorem dX13_type_99 : decode cX13_type 99 = .ok (.getfield 38, 3) := by decide +kernel
theorem dX13_type_102 : decode cX13_type 102 = .ok (.aload_n 0, 1) := by decide +kernel
theorem dX13_type_103 : decode cX13_type 103 = .ok (.getfield 218, 3) := by decide +kernel
theorem dX13_type_106 : decode cX13_type 106 = .ok (.iload 5, 2) := by decide +kernel
theorem dX13_type_108 : decode cX13_type 108 = .ok (.iastore, 1) := by decide +kernel
theorem dX13_type_109 : decode cX13_type 109 = .ok (.aload_n 0, 1) := by decide +kernel
theorem dX13_type_110 : decode cX13_type 110 = .ok (.dup, 1) := by decide +kernel
theorem dX13_type_111 : decode cX13_type 111 = .ok (.getfield 218, 3) := by decide +kernel
theorem dX13_type_114 : decode cX13_type 114 = .ok (.iconst 1, 1) := by decide +kernel
theorem dX13_type_115 : decode cX13_type 115 = .ok (.iadd, 1) := by decide +kernel
theorem dX13_type_116 : decode cX13_type 116 = .ok (.putfield 218, 3) := by decide +kernel
theorem dX13_type_12 : decode cX13_type 12 = .ok (.iload_n 3, 1) := by decide +kernel
theorem dX13_type_13 : decode cX13_type 13 = .ok (.lload_n 1, 1) := by decide +kernel
theorem dX13_type_14 : decode cX13_type 14 = .ok (.bipush 8, 2) := by decide +kernel
theorem dX13_type_16 : decode cX13_type 16 = .ok (.iload 4, 2) := by decide +kernel
theorem dX13_type_18 : decode cX13_type 18 = .ok (.imul, 1) := by decide +kernel
theorem dX13_type_19 : decode cX13_type 19 = .ok (.lshr, 1) := by decide +kernel
theorem dX13_type_20 : decode cX13_type 20 = .ok (.ldc2_w 216, 3) := by decide +kernel
theorem dX13_type_23 : decode cX13_type 23 = .ok (.land, 1) := by decide +kernel
theorem dX13_type_24 : decode cX13_type 24 = .ok (.lconst 0, 1) := by decide +kernel
theorem dX13_type_25 : decode cX13_type 25 = .ok (.lcmp, 1) := by decide +kernel
theorem dX13_type_26 : decode cX13_type 26 = .ok (.ifCond .ne 7, 3) := by decide +kernel
theorem dX13_type_33 : decode cX13_type 33 = .ok (.iconst 1, 1) := by decide +kernel
theorem dX13_type_34 : decode cX13_type 34 = .ok (.iadd, 1) := by decide +kernel
theorem dX13_type_35 : decode cX13_type 35 = .ok (.istore_n 3, 1) := by decide +kernel
theorem dX13_type_36 : decode cX13_type 36 = .ok (.iinc 4 1, 3) := by decide +kernel
theorem dX13_type_39 : decode cX13_type 39 = .ok (.goto (-34), 3) := by decide +kernel
theorem dX13_type_29 : decode cX13_type 29 = .ok (.iconst 0, 1) := by decide +kernel
theorem dX13_type_30 : decode cX13_type 30 = .ok (.goto 4, 3) := by decide +kernel
theorem bys_0 (y : Int64) : (y >>> ((0 : Int32).toInt64 &&& 63)) &&& 255 = (y.toUInt64 >>> ((0 : Int32).toInt64.toUInt64 &&& Int64.toUInt64 63)).toInt64 &&& 255 := by
  apply Int64.toBitVec_inj.mp
  exact (sh_byt (x := y.toBitVec) (s := 0) (by decide))
theorem bys_8 (y : Int64) : (y >>> ((8 : Int32).toInt64 &&& 63)) &&& 255 = (y.toUInt64 >>> ((8 : Int32).toInt64.toUInt64 &&& Int64.toUInt64 63)).toInt64 &&& 255 := by
  apply Int64.toBitVec_inj.mp
  exact (sh_byt (x := y.toBitVec) (s := 8) (by decide))
theorem bys_16 (y : Int64) : (y >>> ((16 : Int32).toInt64 &&& 63)) &&& 255 = (y.toUInt64 >>> ((16 : Int32).toInt64.toUInt64 &&& Int64.toUInt64 63)).toInt64 &&& 255 := by
  apply Int64.toBitVec_inj.mp
  exact (sh_byt (x := y.toBitVec) (s := 16) (by decide))
theorem bys_24 (y : Int64) : (y >>> ((24 : Int32).toInt64 &&& 63)) &&& 255 = (y.toUInt64 >>> ((24 : Int32).toInt64.toUInt64 &&& Int64.toUInt64 63)).toInt64 &&& 255 := by
  apply Int64.toBitVec_inj.mp
  exact (sh_byt (x := y.toBitVec) (s := 24) (by decide))
theorem bys_32 (y : Int64) : (y >>> ((32 : Int32).toInt64 &&& 63)) &&& 255 = (y.toUInt64 >>> ((32 : Int32).toInt64.toUInt64 &&& Int64.toUInt64 63)).toInt64 &&& 255 := by
  apply Int64.toBitVec_inj.mp
  exact (sh_byt (x := y.toBitVec) (s := 32) (by decide))
theorem bys_40 (y : Int64) : (y >>> ((40 : Int32).toInt64 &&& 63)) &&& 255 = (y.toUInt64 >>> ((40 : Int32).toInt64.toUInt64 &&& Int64.toUInt64 63)).toInt64 &&& 255 := by
  apply Int64.toBitVec_inj.mp
  exact (sh_byt (x := y.toBitVec) (s := 40) (by decide))
theorem bys_48 (y : Int64) : (y >>> ((48 : Int32).toInt64 &&& 63)) &&& 255 = (y.toUInt64 >>> ((48 : Int32).toInt64.toUInt64 &&& Int64.toUInt64 63)).toInt64 &&& 255 := by
  apply Int64.toBitVec_inj.mp
  exact (sh_byt (x := y.toBitVec) (s := 48) (by decide))
theorem bys_56 (y : Int64) : (y >>> ((56 : Int32).toInt64 &&& 63)) &&& 255 = (y.toUInt64 >>> ((56 : Int32).toInt64.toUInt64 &&& Int64.toUInt64 63)).toInt64 &&& 255 := by
  apply Int64.toBitVec_inj.mp
  exact (sh_byt (x := y.toBitVec) (s := 56) (by decide))
set_option maxHeartbeats 4000000 in
set_option maxRecDepth 100000 in
theorem c_X13_type (l : Launch) (dC : Nat → ClassId) (dI : Nat → Nat → Nat) (g : Nat → ClassId) (b : Nat → Nat) (r1 : Nat → Nat) (r2 : Nat → Nat) (y : Int64) (th : Int32) (sz : Nat) : Met l yX13_type wsX13_type ({ frames := 1, cells := 0, slots := 0, locals := 23 }) (va_Pc [.ref (b 0), .long y] (PG (dC, dI) g (modW b r1 r2 g th) sz)) (va_Qi (fun (r : Int32) (_ : Unit) => (cd true true true) = 0 → r = nI (ct y 8)) (fun (_ : Unit) t => ∃ fs : List Value, va_P (dC, dI) vwCl [(b 0, .inr (15, .int (cd true true true) :: fs))] t.heap) (va_A (modW b r1 r2 g th) sz)) 0 0 (va_A (modW b r1 r2 g th) sz) := by
  refine Met.ofW (cc := cX13_type) (maxL := 6) (ret := (some .int)) (by decide) rfl ?_
  intro p e s m args below meth c s₁ B hml hv
  obtain ⟨rfl, hsz, hP, hK, hD0, hG⟩ := hv
  have hx := B.exec
  have hb := B.bytes
  have hr := B.returns
  have hts := atoms_spec (ws := wsX13_type) B.pre
  have hown : s.vm.findClass RX13 = some m.cls := findClass_of_methodNamed B.named
  have hlocks := B.notSynchronized
  subst hsz
  have hD := hD0.self (sz := s.heap.size)
  generalize hAe : va_A (modW b r1 r2 g th) s.heap.size = A at hD hG ⊢
  have hA : ∀ q : Nat, s.heap.size ≤ q → A q := fun q h => by rw [← hAe]; exact Or.inr h
  have hS : va_S A s.heap s.heap [] := va_S.rf
  have hl := lv_entry ([.ref (b 0), .long y]) (n := 6) (Nat.le_of_ble_eq_true rfl)
  rw [lg_entry_eq]
  generalize (lg_sl ([.ref (b 0), .long y]) ++ List.replicate (6 - (lg_sl ([.ref (b 0), .long y])).length) Slot.unset).toArray = ls at hl ⊢
  have hl : lv_has ls 6 [(0, .ref (b 0)), (1, .long y)] := hl
  have hf218 := hts (Cond.fieldLink RX13 218 "RunmergeOfficeModel" "textMany" "I") (by decide +kernel)
  have hiX13 : ∀ w ∈ u_ws RX13 TX13 14, w ∈ wsX13_type := by decide +kernel
  have hk216 := hts (Jvm.Cond.constantLong RX13 216 255) (by decide +kernel)
  have hf38 := hts (Cond.fieldLink RX13 38 "RunmergeOfficeModel" "text" "[I") (by decide +kernel)
  refine lv_iconst (v := 0) hx hb dX13_type_0 (by decide) ?_
  refine lv_istore_n (lv' := [(3, .int 0), (0, .ref (b 0)), (1, .long y)]) hx hb dX13_type_1 rfl hl (by decide) rfl (fun ls hl => ?_)
  refine lv_iconst (v := 0) hx hb dX13_type_2 (by decide) ?_
  refine lv_istore (lv' := [(4, .int 0), (3, .int 0), (0, .ref (b 0)), (1, .long y)]) hx hb dX13_type_3 hl (by decide) rfl (fun ls hl => ?_)
  refine W_abs (fun Q hQ => ?_)
  have HD5_8 : ∀ (j : Nat) (H : Heap) (locs : List Loc), j ≤ 8 → va_P (dC, dI) vwCl (modW b r1 r2 g th) H → va_S A s.heap H locs → ∀ (ls : Array Slot), lv_has ls 6 [(4, .int 8), (0, .ref (b 0)), (1, .long y), (3, .int (nI j))] → W p l e (headSpec wsX13_type ({ frames := 1, cells := 0, slots := 0, locals := 23 })).room s m ([.ref (b 0), .long y] : List Value).toArray below meth c H locs 0 0 Q (F0 m 5 ls []) := by
    intro j H locs hj hP hS ls hl
    refine lv_iload hx hb dX13_type_5 (lv_at hl 0 rfl) ?_
    refine lv_bipush (v := 8) hx hb dX13_type_7 (by decide) ?_
    refine lv_icmp_ge (tgt := 42) hx hb dX13_type_9 (by decide) (fun c_1 => ?_) (fun c_1 => absurd (by decide) c_1)
    refine lv_aload_n hx hb dX13_type_42 rfl (lv_at hl 1 rfl) ?_
    refine lv_aload_n hx hb dX13_type_43 rfl (lv_at hl 1 rfl) ?_
    refine va_get (D := (dC, dI)) (ci := 15) (v := .int 0) (C := RX13) (T := TX13) (N := 14) hx hb hts hiX13 hown hK hP 0 (m_0 b r1 r2 g th) rfl 9 (by decide) hf218 (fun _ h9 => h9) rfl dX13_type_44 ?_
    refine lv_iload_n hx hb dX13_type_47 rfl (lv_at hl 3 rfl) ?_
    refine lv_iadd hx hb dX13_type_48 ?_
    refine lv_topi (fun x_2 ex_2 => ?_)
    refine lv_sipush (v := 160) hx hb dX13_type_49 (by decide) ?_
    refine lv_icmp_gt (tgt := 59) hx hb dX13_type_52 (by decide) (fun c_3 => absurd c_3 (by rw [ex_2, Int32.zero_add]; exact nI_nlt (b := j) (a := 160) (by omega) (by decide))) (fun c_3 => ?_)
    refine lv_iconst (v := 1) hx hb dX13_type_55 (by decide) ?_
    refine lv_goto (tgt := 60) hx hb dX13_type_56 (by decide) ?_
    refine lv_iconst (v := 1) hx hb dX13_type_60 (by decide) ?_
    refine lv_iconst (v := 1) hx hb dX13_type_61 (by decide) ?_
    refine va_calli (va_runV (As := [.int 1, .int 1, .int 1]) (rest := []) ⟨hx, hb, hml, hown, hts⟩ (c_X13_passes l dC dI g b r1 r2 th true true true  H.size) (cwV 3 hts gX13_type_X13_passes rfl rfl rfl (by decide +kernel) ⟨Nat.le_of_ble_eq_true rfl, Nat.le_of_ble_eq_true rfl⟩) ⟨PG_blind, va_recv hK hP (ci := 15) (q0 := 0) rfl (m_0 b r1 r2 g th), PG_call hK hG hS hP hD (A_all hD hA hS.1)⟩ rfl rfl hl.1 rfl (lv_room (Nat.le_of_ble_eq_true rfl)) dX13_type_62 ⟨Nat.le_of_ble_eq_true rfl, Nat.le_of_ble_eq_true rfl⟩) hS (fun q _ h => (A_all hD hA hS.1) q h) (A_all hD hA hS.1) (fun r_4 u_4 t_4 H_4 L_4 ht_4 hvm_4 hw_4 hB_4 hz_4 hk_4 hS => ?_)
    rw [ht_4] at hB_4
    have hP : va_P (dC, dI) vwCl (modW b r1 r2 g (cd true true true)) H_4 := hB_4
    have hD : va_D A (modW b r1 r2 g (cd true true true)) := va_D_th hD
    obtain rfl : r_4 = 1 := hw_4.trans (by simp [b2i])
    refine lv_if_ne (tgt := 70) hx hb dX13_type_65 (by decide) (fun c_5 => ?_) (fun c_5 => absurd c_5 (by decide))
    replace hP := hP.sub (ws' := [((b 0), .inr (15, [.int (cd true true true), .ref (b 1), .ref (b 2), .int 0, .ref (b 3), .ref (b 4), .ref (b 5), .null, .ref (b 6), .int (nI 0), .int 0, .int 0, .int 0, .int 0])), ((b 6), .inl (g 0, 160, .inl (fun _ => 0)))]) [0, 6] rfl
    replace hD := hD.sub (ws' := [((b 0), .inr (15, [.int (cd true true true), .ref (b 1), .ref (b 2), .int 0, .ref (b 3), .ref (b 4), .ref (b 5), .null, .ref (b 6), .int (nI 0), .int 0, .int 0, .int 0, .int 0])), ((b 6), .inl (g 0, 160, .inl (fun _ => 0)))]) [0, 6] (by decide) rfl
    have hP : va_P (dC, dI) vwCl [((b 0), .inr (15, [.int (cd true true true), .ref (b 1), .ref (b 2), .int 0, .ref (b 3), .ref (b 4), .ref (b 5), .null, .ref (b 6), .int (nI 0), .int 0, .int 0, .int 0, .int 0])), ((b 6), .inl (g 0, 160, .inl (fun _ => 0)))] H_4 := hP
    have hD : va_D A [((b 0), .inr (15, [.int (cd true true true), .ref (b 1), .ref (b 2), .int 0, .ref (b 3), .ref (b 4), .ref (b 5), .null, .ref (b 6), .int (nI 0), .int 0, .int 0, .int 0, .int 0])), ((b 6), .inl (g 0, 160, .inl (fun _ => 0)))] := hD
    refine lv_bipush (v := 7) hx hb dX13_type_70 (by decide) ?_
    refine lv_istore (lv' := [(4, .int 7), (0, .ref (b 0)), (1, .long y), (3, .int (nI j))]) hx hb dX13_type_72 hl (by decide) rfl (fun ls hl => ?_)
    have HD74_8 : ∀ (fx : Nat → Int32) (H : Heap) (locs : List Loc), va_P (dC, dI) vwCl [((b 0), .inr (15, [.int (cd true true true), .ref (b 1), .ref (b 2), .int 0, .ref (b 3), .ref (b 4), .ref (b 5), .null, .ref (b 6), .int (nI (ct y 8)), .int 0, .int 0, .int 0, .int 0])), ((b 6), .inl (g 0, 160, .inl fx))] H → va_D A [((b 0), .inr (15, [.int (cd true true true), .ref (b 1), .ref (b 2), .int 0, .ref (b 3), .ref (b 4), .ref (b 5), .null, .ref (b 6), .int (nI (ct y 8)), .int 0, .int 0, .int 0, .int 0])), ((b 6), .inl (g 0, 160, .inl fx))] → va_S A s.heap H locs → ∀ (ls : Array Slot), lv_has ls 6 [(4, .int (-1)), (0, .ref (b 0)), (1, .long y)] → W p l e (headSpec wsX13_type ({ frames := 1, cells := 0, slots := 0, locals := 23 })).room s m ([.ref (b 0), .long y] : List Value).toArray below meth c H locs 0 0 Q (F0 m 74 ls []) := by
      intro fx H locs  hP hD hS ls hl
      refine lv_iload hx hb dX13_type_74 (lv_at hl 0 rfl) ?_
      refine lv_if_lt (tgt := 125) hx hb dX13_type_76 (by decide) (fun c_6 => ?_) (fun c_6 => absurd (by decide) c_6)
      refine lv_aload_n hx hb dX13_type_125 rfl (lv_at hl 1 rfl) ?_
      refine va_get (D := (dC, dI)) (ci := 15) (v := .int (nI (ct y 8))) (C := RX13) (T := TX13) (N := 14) hx hb hts hiX13 hown hK hP 0 rfl rfl 9 (by decide) hf218 (fun _ h9 => h9) rfl dX13_type_126 ?_
      subst hQ
      have hcd : (cd true true true) = (cd true true true) := rfl
      have hP8 := hP.sub (ws' := [((b 0), .inr (15, [.int (cd true true true), .ref (b 1), .ref (b 2), .int 0, .ref (b 3), .ref (b 4), .ref (b 5), .null, .ref (b 6), .int (nI (ct y 8)), .int 0, .int 0, .int 0, .int 0]))]) [0] rfl
      rw [hcd] at hP8
      exact W.iret (v := (nI (ct y 8))) hx hb hr (fun t ht hW => ⟨⟨(nI (ct y 8)), (), rfl, (fun h => by first | rfl | (exact absurd (cd_0.mp h) (by simp []))), ⟨[.ref (b 1), .ref (b 2), .int 0, .ref (b 3), .ref (b 4), .ref (b 5), .null, .ref (b 6), .int (nI (ct y 8)), .int 0, .int 0, .int 0, .int 0], P_at ht hP8⟩⟩, hS.F ht⟩) hS.2.2 dX13_type_129
    have HD74_7 : ∀ (fx : Nat → Int32) (H : Heap) (locs : List Loc), va_P (dC, dI) vwCl [((b 0), .inr (15, [.int (cd true true true), .ref (b 1), .ref (b 2), .int 0, .ref (b 3), .ref (b 4), .ref (b 5), .null, .ref (b 6), .int (nI (ct y 7)), .int 0, .int 0, .int 0, .int 0])), ((b 6), .inl (g 0, 160, .inl fx))] H → va_D A [((b 0), .inr (15, [.int (cd true true true), .ref (b 1), .ref (b 2), .int 0, .ref (b 3), .ref (b 4), .ref (b 5), .null, .ref (b 6), .int (nI (ct y 7)), .int 0, .int 0, .int 0, .int 0])), ((b 6), .inl (g 0, 160, .inl fx))] → va_S A s.heap H locs → ∀ (ls : Array Slot), lv_has ls 6 [(4, .int 0), (0, .ref (b 0)), (1, .long y)] → W p l e (headSpec wsX13_type ({ frames := 1, cells := 0, slots := 0, locals := 23 })).room s m ([.ref (b 0), .long y] : List Value).toArray below meth c H locs 0 0 Q (F0 m 74 ls []) := by
      intro fx H locs  hP hD hS ls hl
      refine lv_iload hx hb dX13_type_74 (lv_at hl 0 rfl) ?_
      refine lv_if_lt (tgt := 125) hx hb dX13_type_76 (by decide) (fun c_7 => absurd c_7 (by decide)) (fun c_7 => ?_)
      refine lv_lload_n hx hb dX13_type_79 rfl (lv_at hl 2 rfl) ?_
      refine lv_bipush (v := 8) hx hb dX13_type_80 (by decide) ?_
      refine lv_iload hx hb dX13_type_82 (lv_at hl 0 rfl) ?_
      refine lv_imul hx hb dX13_type_84 ?_
      refine lv_topi (fun x_8 ex_8 => ?_)
      obtain rfl : x_8 = 0 := ex_8.trans (by decide)
      refine lv_lshr hx hb dX13_type_85 rfl ?_
      refine lv_topl (fun x_9 ex_9 => ?_)
      refine lv_ldc2 hx hb hown hk216 dX13_type_86 ?_
      refine lv_land hx hb dX13_type_89 ?_
      refine lv_topl (fun x_10 ex_10 => ?_)
      refine lv_l2i (v := x_10.toInt32) hx hb dX13_type_90 rfl ?_
      refine lv_topi (fun x_11 ex_11 => ?_)
      have hby_11 : x_11 = byt y 0 := by rw [ex_11, ex_10, ex_9]; exact congrArg Int64.toInt32 (bys_0 y)
      refine lv_istore (lv' := [(5, .int x_11), (4, .int 0), (0, .ref (b 0)), (1, .long y)]) hx hb dX13_type_91 hl (by decide) rfl (fun ls hl => ?_)
      refine lv_iload hx hb dX13_type_93 (lv_at hl 0 rfl) ?_
      refine lv_if_eq (tgt := 119) hx hb dX13_type_95 (by decide) (fun c_12 => ?_) (fun c_12 => ?_)
      · refine lv_iinc (v := (-1)) (lv' := [(4, .int (-1)), (5, .int x_11), (0, .ref (b 0)), (1, .long y)]) hx hb dX13_type_119 hl (k := 1) rfl (by decide) (by decide) rfl (fun ls hl => ?_)
        refine lv_goto (tgt := 74) hx hb dX13_type_122 (by decide) ?_
        have e9 : ct y 8 = ct y 7 := (show ct y 8 = ct y 7 + (if byt y 0 = 0 then 0 else 1) from rfl).trans (by rw [if_pos (by rw [← hby_11]; exact c_12), Nat.add_zero])
        have hP8 : va_P (dC, dI) vwCl [((b 0), .inr (15, [.int (cd true true true), .ref (b 1), .ref (b 2), .int 0, .ref (b 3), .ref (b 4), .ref (b 5), .null, .ref (b 6), .int (nI (ct y 8)), .int 0, .int 0, .int 0, .int 0])), ((b 6), .inl (g 0, 160, .inl fx))] H := by rw [e9]; exact hP.sub [0, 1] rfl
        have hD8 : va_D A [((b 0), .inr (15, [.int (cd true true true), .ref (b 1), .ref (b 2), .int 0, .ref (b 3), .ref (b 4), .ref (b 5), .null, .ref (b 6), .int (nI (ct y 8)), .int 0, .int 0, .int 0, .int 0])), ((b 6), .inl (g 0, 160, .inl fx))] := by rw [e9]; exact hD.sub [0, 1] (by decide) rfl
        exact HD74_8 fx _ _  hP8 hD8 hS _ (lv_sub hl [0, 2, 3] rfl)
      · refine lv_aload_n hx hb dX13_type_98 rfl (lv_at hl 2 rfl) ?_
        refine va_get (D := (dC, dI)) (ci := 15) (v := .ref (b 6)) (C := RX13) (T := TX13) (N := 14) hx hb hts hiX13 hown hK hP 0 rfl rfl 8 (by decide) hf38 (fun _ h9 => h9) rfl dX13_type_99 ?_
        refine lv_aload_n hx hb dX13_type_102 rfl (lv_at hl 2 rfl) ?_
        refine va_get (D := (dC, dI)) (ci := 15) (v := .int (nI (ct y 7))) (C := RX13) (T := TX13) (N := 14) hx hb hts hiX13 hown hK hP 0 rfl rfl 9 (by decide) hf218 (fun _ h9 => h9) rfl dX13_type_103 ?_
        refine lv_iload hx hb dX13_type_106 (lv_at hl 0 rfl) ?_
        refine va_iast hx hb hK hP hD hS 1 0 rfl rfl (vp_in_nI (Nat.lt_of_le_of_lt (ct_le y _) (by decide)) (by decide)) dX13_type_108 (fun H_13 L_14 hP hD hS => ?_)
        have hP : va_P (dC, dI) vwCl [((b 0), .inr (15, [.int (cd true true true), .ref (b 1), .ref (b 2), .int 0, .ref (b 3), .ref (b 4), .ref (b 5), .null, .ref (b 6), .int (nI (ct y 7)), .int 0, .int 0, .int 0, .int 0])), ((b 6), .inl (g 0, 160, .inl (upd fx (nI (ct y 7)).toNatClampNeg x_11)))] H_13 := hP
        have hD : va_D A [((b 0), .inr (15, [.int (cd true true true), .ref (b 1), .ref (b 2), .int 0, .ref (b 3), .ref (b 4), .ref (b 5), .null, .ref (b 6), .int (nI (ct y 7)), .int 0, .int 0, .int 0, .int 0])), ((b 6), .inl (g 0, 160, .inl (upd fx (nI (ct y 7)).toNatClampNeg x_11)))] := hD
        refine lv_aload_n hx hb dX13_type_109 rfl (lv_at hl 2 rfl) ?_
        refine lv_dup hx hb dX13_type_110 rfl ?_
        refine va_get (D := (dC, dI)) (ci := 15) (v := .int (nI (ct y 7))) (C := RX13) (T := TX13) (N := 14) hx hb hts hiX13 hown hK hP 0 rfl rfl 9 (by decide) hf218 (fun _ h9 => h9) rfl dX13_type_111 ?_
        refine lv_iconst (v := 1) hx hb dX13_type_114 (by decide) ?_
        refine lv_iadd hx hb dX13_type_115 ?_
        refine lv_topi (fun x_15 ex_15 => ?_)
        obtain rfl : x_15 = nI (ct y 7 + 1) := ex_15.trans (nI_1 _)
        refine va_put (D := (dC, dI)) (ci := 15) (v := .int (nI (ct y 7 + 1))) (ty := .int) (C := RX13) (T := TX13) (N := 14) hx hb hts hiX13 tyX13 tyX13_ok nmX13 hown hK hP hD hS 0 rfl rfl 9 (by decide) hf218 (fun _ h9 => h9) rfl (by decide +kernel) rfl rfl (Nat.le_of_ble_eq_true rfl) dX13_type_116 (fun H_16 L_17 hP hD hS => ?_)
        have hP : va_P (dC, dI) vwCl [((b 0), .inr (15, [.int (cd true true true), .ref (b 1), .ref (b 2), .int 0, .ref (b 3), .ref (b 4), .ref (b 5), .null, .ref (b 6), .int (nI (ct y 7 + 1)), .int 0, .int 0, .int 0, .int 0])), ((b 6), .inl (g 0, 160, .inl (upd fx (nI (ct y 7)).toNatClampNeg x_11)))] H_16 := hP
        have hD : va_D A [((b 0), .inr (15, [.int (cd true true true), .ref (b 1), .ref (b 2), .int 0, .ref (b 3), .ref (b 4), .ref (b 5), .null, .ref (b 6), .int (nI (ct y 7 + 1)), .int 0, .int 0, .int 0, .int 0])), ((b 6), .inl (g 0, 160, .inl (upd fx (nI (ct y 7)).toNatClampNeg x_11)))] := hD
        refine lv_iinc (v := (-1)) (lv' := [(4, .int (-1)), (5, .int x_11), (0, .ref (b 0)), (1, .long y)]) hx hb dX13_type_119 hl (k := 1) rfl (by decide) (by decide) rfl (fun ls hl => ?_)
        refine lv_goto (tgt := 74) hx hb dX13_type_122 (by decide) ?_
        have e9 : ct y 8 = ct y 7 + 1 := (show ct y 8 = ct y 7 + (if byt y 0 = 0 then 0 else 1) from rfl).trans (by rw [if_neg (by rw [← hby_11]; exact c_12)])
        have hP8 : va_P (dC, dI) vwCl [((b 0), .inr (15, [.int (cd true true true), .ref (b 1), .ref (b 2), .int 0, .ref (b 3), .ref (b 4), .ref (b 5), .null, .ref (b 6), .int (nI (ct y 8)), .int 0, .int 0, .int 0, .int 0])), ((b 6), .inl (g 0, 160, .inl (upd fx (nI (ct y 7)).toNatClampNeg x_11)))] H_16 := by rw [e9]; exact hP.sub [0, 1] rfl
        have hD8 : va_D A [((b 0), .inr (15, [.int (cd true true true), .ref (b 1), .ref (b 2), .int 0, .ref (b 3), .ref (b 4), .ref (b 5), .null, .ref (b 6), .int (nI (ct y 8)), .int 0, .int 0, .int 0, .int 0])), ((b 6), .inl (g 0, 160, .inl (upd fx (nI (ct y 7)).toNatClampNeg x_11)))] := by rw [e9]; exact hD.sub [0, 1] (by decide) rfl
        exact HD74_8 (upd fx (nI (ct y 7)).toNatClampNeg x_11) _ _  hP8 hD8 hS _ (lv_sub hl [0, 2, 3] rfl)
    have HD74_6 : ∀ (fx : Nat → Int32) (H : Heap) (locs : List Loc), va_P (dC, dI) vwCl [((b 0), .inr (15, [.int (cd true true true), .ref (b 1), .ref (b 2), .int 0, .ref (b 3), .ref (b 4), .ref (b 5), .null, .ref (b 6), .int (nI (ct y 6)), .int 0, .int 0, .int 0, .int 0])), ((b 6), .inl (g 0, 160, .inl fx))] H → va_D A [((b 0), .inr (15, [.int (cd true true true), .ref (b 1), .ref (b 2), .int 0, .ref (b 3), .ref (b 4), .ref (b 5), .null, .ref (b 6), .int (nI (ct y 6)), .int 0, .int 0, .int 0, .int 0])), ((b 6), .inl (g 0, 160, .inl fx))] → va_S A s.heap H locs → ∀ (ls : Array Slot), lv_has ls 6 [(4, .int 1), (0, .ref (b 0)), (1, .long y)] → W p l e (headSpec wsX13_type ({ frames := 1, cells := 0, slots := 0, locals := 23 })).room s m ([.ref (b 0), .long y] : List Value).toArray below meth c H locs 0 0 Q (F0 m 74 ls []) := by
      intro fx H locs  hP hD hS ls hl
      refine lv_iload hx hb dX13_type_74 (lv_at hl 0 rfl) ?_
      refine lv_if_lt (tgt := 125) hx hb dX13_type_76 (by decide) (fun c_18 => absurd c_18 (by decide)) (fun c_18 => ?_)
      refine lv_lload_n hx hb dX13_type_79 rfl (lv_at hl 2 rfl) ?_
      refine lv_bipush (v := 8) hx hb dX13_type_80 (by decide) ?_
      refine lv_iload hx hb dX13_type_82 (lv_at hl 0 rfl) ?_
      refine lv_imul hx hb dX13_type_84 ?_
      refine lv_topi (fun x_19 ex_19 => ?_)
      obtain rfl : x_19 = 8 := ex_19.trans (by decide)
      refine lv_lshr hx hb dX13_type_85 rfl ?_
      refine lv_topl (fun x_20 ex_20 => ?_)
      refine lv_ldc2 hx hb hown hk216 dX13_type_86 ?_
      refine lv_land hx hb dX13_type_89 ?_
      refine lv_topl (fun x_21 ex_21 => ?_)
      refine lv_l2i (v := x_21.toInt32) hx hb dX13_type_90 rfl ?_
      refine lv_topi (fun x_22 ex_22 => ?_)
      have hby_22 : x_22 = byt y 8 := by rw [ex_22, ex_21, ex_20]; exact congrArg Int64.toInt32 (bys_8 y)
      refine lv_istore (lv' := [(5, .int x_22), (4, .int 1), (0, .ref (b 0)), (1, .long y)]) hx hb dX13_type_91 hl (by decide) rfl (fun ls hl => ?_)
      refine lv_iload hx hb dX13_type_93 (lv_at hl 0 rfl) ?_
      refine lv_if_eq (tgt := 119) hx hb dX13_type_95 (by decide) (fun c_23 => ?_) (fun c_23 => ?_)
      · refine lv_iinc (v := 0) (lv' := [(4, .int 0), (5, .int x_22), (0, .ref (b 0)), (1, .long y)]) hx hb dX13_type_119 hl (k := 1) rfl (by decide) (by decide) rfl (fun ls hl => ?_)
        refine lv_goto (tgt := 74) hx hb dX13_type_122 (by decide) ?_
        have e9 : ct y 7 = ct y 6 := (show ct y 7 = ct y 6 + (if byt y 8 = 0 then 0 else 1) from rfl).trans (by rw [if_pos (by rw [← hby_22]; exact c_23), Nat.add_zero])
        have hP8 : va_P (dC, dI) vwCl [((b 0), .inr (15, [.int (cd true true true), .ref (b 1), .ref (b 2), .int 0, .ref (b 3), .ref (b 4), .ref (b 5), .null, .ref (b 6), .int (nI (ct y 7)), .int 0, .int 0, .int 0, .int 0])), ((b 6), .inl (g 0, 160, .inl fx))] H := by rw [e9]; exact hP.sub [0, 1] rfl
        have hD8 : va_D A [((b 0), .inr (15, [.int (cd true true true), .ref (b 1), .ref (b 2), .int 0, .ref (b 3), .ref (b 4), .ref (b 5), .null, .ref (b 6), .int (nI (ct y 7)), .int 0, .int 0, .int 0, .int 0])), ((b 6), .inl (g 0, 160, .inl fx))] := by rw [e9]; exact hD.sub [0, 1] (by decide) rfl
        exact HD74_7 fx _ _  hP8 hD8 hS _ (lv_sub hl [0, 2, 3] rfl)
      · refine lv_aload_n hx hb dX13_type_98 rfl (lv_at hl 2 rfl) ?_
        refine va_get (D := (dC, dI)) (ci := 15) (v := .ref (b 6)) (C := RX13) (T := TX13) (N := 14) hx hb hts hiX13 hown hK hP 0 rfl rfl 8 (by decide) hf38 (fun _ h9 => h9) rfl dX13_type_99 ?_
        refine lv_aload_n hx hb dX13_type_102 rfl (lv_at hl 2 rfl) ?_
        refine va_get (D := (dC, dI)) (ci := 15) (v := .int (nI (ct y 6))) (C := RX13) (T := TX13) (N := 14) hx hb hts hiX13 hown hK hP 0 rfl rfl 9 (by decide) hf218 (fun _ h9 => h9) rfl dX13_type_103 ?_
        refine lv_iload hx hb dX13_type_106 (lv_at hl 0 rfl) ?_
        refine va_iast hx hb hK hP hD hS 1 0 rfl rfl (vp_in_nI (Nat.lt_of_le_of_lt (ct_le y _) (by decide)) (by decide)) dX13_type_108 (fun H_24 L_25 hP hD hS => ?_)
        have hP : va_P (dC, dI) vwCl [((b 0), .inr (15, [.int (cd true true true), .ref (b 1), .ref (b 2), .int 0, .ref (b 3), .ref (b 4), .ref (b 5), .null, .ref (b 6), .int (nI (ct y 6)), .int 0, .int 0, .int 0, .int 0])), ((b 6), .inl (g 0, 160, .inl (upd fx (nI (ct y 6)).toNatClampNeg x_22)))] H_24 := hP
        have hD : va_D A [((b 0), .inr (15, [.int (cd true true true), .ref (b 1), .ref (b 2), .int 0, .ref (b 3), .ref (b 4), .ref (b 5), .null, .ref (b 6), .int (nI (ct y 6)), .int 0, .int 0, .int 0, .int 0])), ((b 6), .inl (g 0, 160, .inl (upd fx (nI (ct y 6)).toNatClampNeg x_22)))] := hD
        refine lv_aload_n hx hb dX13_type_109 rfl (lv_at hl 2 rfl) ?_
        refine lv_dup hx hb dX13_type_110 rfl ?_
        refine va_get (D := (dC, dI)) (ci := 15) (v := .int (nI (ct y 6))) (C := RX13) (T := TX13) (N := 14) hx hb hts hiX13 hown hK hP 0 rfl rfl 9 (by decide) hf218 (fun _ h9 => h9) rfl dX13_type_111 ?_
        refine lv_iconst (v := 1) hx hb dX13_type_114 (by decide) ?_
        refine lv_iadd hx hb dX13_type_115 ?_
        refine lv_topi (fun x_26 ex_26 => ?_)
        obtain rfl : x_26 = nI (ct y 6 + 1) := ex_26.trans (nI_1 _)
        refine va_put (D := (dC, dI)) (ci := 15) (v := .int (nI (ct y 6 + 1))) (ty := .int) (C := RX13) (T := TX13) (N := 14) hx hb hts hiX13 tyX13 tyX13_ok nmX13 hown hK hP hD hS 0 rfl rfl 9 (by decide) hf218 (fun _ h9 => h9) rfl (by decide +kernel) rfl rfl (Nat.le_of_ble_eq_true rfl) dX13_type_116 (fun H_27 L_28 hP hD hS => ?_)
        have hP : va_P (dC, dI) vwCl [((b 0), .inr (15, [.int (cd true true true), .ref (b 1), .ref (b 2), .int 0, .ref (b 3), .ref (b 4), .ref (b 5), .null, .ref (b 6), .int (nI (ct y 6 + 1)), .int 0, .int 0, .int 0, .int 0])), ((b 6), .inl (g 0, 160, .inl (upd fx (nI (ct y 6)).toNatClampNeg x_22)))] H_27 := hP
        have hD : va_D A [((b 0), .inr (15, [.int (cd true true true), .ref (b 1), .ref (b 2), .int 0, .ref (b 3), .ref (b 4), .ref (b 5), .null, .ref (b 6), .int (nI (ct y 6 + 1)), .int 0, .int 0, .int 0, .int 0])), ((b 6), .inl (g 0, 160, .inl (upd fx (nI (ct y 6)).toNatClampNeg x_22)))] := hD
        refine lv_iinc (v := 0) (lv' := [(4, .int 0), (5, .int x_22), (0, .ref (b 0)), (1, .long y)]) hx hb dX13_type_119 hl (k := 1) rfl (by decide) (by decide) rfl (fun ls hl => ?_)
        refine lv_goto (tgt := 74) hx hb dX13_type_122 (by decide) ?_
        have e9 : ct y 7 = ct y 6 + 1 := (show ct y 7 = ct y 6 + (if byt y 8 = 0 then 0 else 1) from rfl).trans (by rw [if_neg (by rw [← hby_22]; exact c_23)])
        have hP8 : va_P (dC, dI) vwCl [((b 0), .inr (15, [.int (cd true true true), .ref (b 1), .ref (b 2), .int 0, .ref (b 3), .ref (b 4), .ref (b 5), .null, .ref (b 6), .int (nI (ct y 7)), .int 0, .int 0, .int 0, .int 0])), ((b 6), .inl (g 0, 160, .inl (upd fx (nI (ct y 6)).toNatClampNeg x_22)))] H_27 := by rw [e9]; exact hP.sub [0, 1] rfl
        have hD8 : va_D A [((b 0), .inr (15, [.int (cd true true true), .ref (b 1), .ref (b 2), .int 0, .ref (b 3), .ref (b 4), .ref (b 5), .null, .ref (b 6), .int (nI (ct y 7)), .int 0, .int 0, .int 0, .int 0])), ((b 6), .inl (g 0, 160, .inl (upd fx (nI (ct y 6)).toNatClampNeg x_22)))] := by rw [e9]; exact hD.sub [0, 1] (by decide) rfl
        exact HD74_7 (upd fx (nI (ct y 6)).toNatClampNeg x_22) _ _  hP8 hD8 hS _ (lv_sub hl [0, 2, 3] rfl)
    have HD74_5 : ∀ (fx : Nat → Int32) (H : Heap) (locs : List Loc), va_P (dC, dI) vwCl [((b 0), .inr (15, [.int (cd true true true), .ref (b 1), .ref (b 2), .int 0, .ref (b 3), .ref (b 4), .ref (b 5), .null, .ref (b 6), .int (nI (ct y 5)), .int 0, .int 0, .int 0, .int 0])), ((b 6), .inl (g 0, 160, .inl fx))] H → va_D A [((b 0), .inr (15, [.int (cd true true true), .ref (b 1), .ref (b 2), .int 0, .ref (b 3), .ref (b 4), .ref (b 5), .null, .ref (b 6), .int (nI (ct y 5)), .int 0, .int 0, .int 0, .int 0])), ((b 6), .inl (g 0, 160, .inl fx))] → va_S A s.heap H locs → ∀ (ls : Array Slot), lv_has ls 6 [(4, .int 2), (0, .ref (b 0)), (1, .long y)] → W p l e (headSpec wsX13_type ({ frames := 1, cells := 0, slots := 0, locals := 23 })).room s m ([.ref (b 0), .long y] : List Value).toArray below meth c H locs 0 0 Q (F0 m 74 ls []) := by
      intro fx H locs  hP hD hS ls hl
      refine lv_iload hx hb dX13_type_74 (lv_at hl 0 rfl) ?_
      refine lv_if_lt (tgt := 125) hx hb dX13_type_76 (by decide) (fun c_29 => absurd c_29 (by decide)) (fun c_29 => ?_)
      refine lv_lload_n hx hb dX13_type_79 rfl (lv_at hl 2 rfl) ?_
      refine lv_bipush (v := 8) hx hb dX13_type_80 (by decide) ?_
      refine lv_iload hx hb dX13_type_82 (lv_at hl 0 rfl) ?_
      refine lv_imul hx hb dX13_type_84 ?_
      refine lv_topi (fun x_30 ex_30 => ?_)
      obtain rfl : x_30 = 16 := ex_30.trans (by decide)
      refine lv_lshr hx hb dX13_type_85 rfl ?_
      refine lv_topl (fun x_31 ex_31 => ?_)
      refine lv_ldc2 hx hb hown hk216 dX13_type_86 ?_
      refine lv_land hx hb dX13_type_89 ?_
      refine lv_topl (fun x_32 ex_32 => ?_)
      refine lv_l2i (v := x_32.toInt32) hx hb dX13_type_90 rfl ?_
      refine lv_topi (fun x_33 ex_33 => ?_)
      have hby_33 : x_33 = byt y 16 := by rw [ex_33, ex_32, ex_31]; exact congrArg Int64.toInt32 (bys_16 y)
      refine lv_istore (lv' := [(5, .int x_33), (4, .int 2), (0, .ref (b 0)), (1, .long y)]) hx hb dX13_type_91 hl (by decide) rfl (fun ls hl => ?_)
      refine lv_iload hx hb dX13_type_93 (lv_at hl 0 rfl) ?_
      refine lv_if_eq (tgt := 119) hx hb dX13_type_95 (by decide) (fun c_34 => ?_) (fun c_34 => ?_)
      · refine lv_iinc (v := 1) (lv' := [(4, .int 1), (5, .int x_33), (0, .ref (b 0)), (1, .long y)]) hx hb dX13_type_119 hl (k := 1) rfl (by decide) (by decide) rfl (fun ls hl => ?_)
        refine lv_goto (tgt := 74) hx hb dX13_type_122 (by decide) ?_
        have e9 : ct y 6 = ct y 5 := (show ct y 6 = ct y 5 + (if byt y 16 = 0 then 0 else 1) from rfl).trans (by rw [if_pos (by rw [← hby_33]; exact c_34), Nat.add_zero])
        have hP8 : va_P (dC, dI) vwCl [((b 0), .inr (15, [.int (cd true true true), .ref (b 1), .ref (b 2), .int 0, .ref (b 3), .ref (b 4), .ref (b 5), .null, .ref (b 6), .int (nI (ct y 6)), .int 0, .int 0, .int 0, .int 0])), ((b 6), .inl (g 0, 160, .inl fx))] H := by rw [e9]; exact hP.sub [0, 1] rfl
        have hD8 : va_D A [((b 0), .inr (15, [.int (cd true true true), .ref (b 1), .ref (b 2), .int 0, .ref (b 3), .ref (b 4), .ref (b 5), .null, .ref (b 6), .int (nI (ct y 6)), .int 0, .int 0, .int 0, .int 0])), ((b 6), .inl (g 0, 160, .inl fx))] := by rw [e9]; exact hD.sub [0, 1] (by decide) rfl
        exact HD74_6 fx _ _  hP8 hD8 hS _ (lv_sub hl [0, 2, 3] rfl)
      · refine lv_aload_n hx hb dX13_type_98 rfl (lv_at hl 2 rfl) ?_
        refine va_get (D := (dC, dI)) (ci := 15) (v := .ref (b 6)) (C := RX13) (T := TX13) (N := 14) hx hb hts hiX13 hown hK hP 0 rfl rfl 8 (by decide) hf38 (fun _ h9 => h9) rfl dX13_type_99 ?_
        refine lv_aload_n hx hb dX13_type_102 rfl (lv_at hl 2 rfl) ?_
        refine va_get (D := (dC, dI)) (ci := 15) (v := .int (nI (ct y 5))) (C := RX13) (T := TX13) (N := 14) hx hb hts hiX13 hown hK hP 0 rfl rfl 9 (by decide) hf218 (fun _ h9 => h9) rfl dX13_type_103 ?_
        refine lv_iload hx hb dX13_type_106 (lv_at hl 0 rfl) ?_
        refine va_iast hx hb hK hP hD hS 1 0 rfl rfl (vp_in_nI (Nat.lt_of_le_of_lt (ct_le y _) (by decide)) (by decide)) dX13_type_108 (fun H_35 L_36 hP hD hS => ?_)
        have hP : va_P (dC, dI) vwCl [((b 0), .inr (15, [.int (cd true true true), .ref (b 1), .ref (b 2), .int 0, .ref (b 3), .ref (b 4), .ref (b 5), .null, .ref (b 6), .int (nI (ct y 5)), .int 0, .int 0, .int 0, .int 0])), ((b 6), .inl (g 0, 160, .inl (upd fx (nI (ct y 5)).toNatClampNeg x_33)))] H_35 := hP
        have hD : va_D A [((b 0), .inr (15, [.int (cd true true true), .ref (b 1), .ref (b 2), .int 0, .ref (b 3), .ref (b 4), .ref (b 5), .null, .ref (b 6), .int (nI (ct y 5)), .int 0, .int 0, .int 0, .int 0])), ((b 6), .inl (g 0, 160, .inl (upd fx (nI (ct y 5)).toNatClampNeg x_33)))] := hD
        refine lv_aload_n hx hb dX13_type_109 rfl (lv_at hl 2 rfl) ?_
        refine lv_dup hx hb dX13_type_110 rfl ?_
        refine va_get (D := (dC, dI)) (ci := 15) (v := .int (nI (ct y 5))) (C := RX13) (T := TX13) (N := 14) hx hb hts hiX13 hown hK hP 0 rfl rfl 9 (by decide) hf218 (fun _ h9 => h9) rfl dX13_type_111 ?_
        refine lv_iconst (v := 1) hx hb dX13_type_114 (by decide) ?_
        refine lv_iadd hx hb dX13_type_115 ?_
        refine lv_topi (fun x_37 ex_37 => ?_)
        obtain rfl : x_37 = nI (ct y 5 + 1) := ex_37.trans (nI_1 _)
        refine va_put (D := (dC, dI)) (ci := 15) (v := .int (nI (ct y 5 + 1))) (ty := .int) (C := RX13) (T := TX13) (N := 14) hx hb hts hiX13 tyX13 tyX13_ok nmX13 hown hK hP hD hS 0 rfl rfl 9 (by decide) hf218 (fun _ h9 => h9) rfl (by decide +kernel) rfl rfl (Nat.le_of_ble_eq_true rfl) dX13_type_116 (fun H_38 L_39 hP hD hS => ?_)
        have hP : va_P (dC, dI) vwCl [((b 0), .inr (15, [.int (cd true true true), .ref (b 1), .ref (b 2), .int 0, .ref (b 3), .ref (b 4), .ref (b 5), .null, .ref (b 6), .int (nI (ct y 5 + 1)), .int 0, .int 0, .int 0, .int 0])), ((b 6), .inl (g 0, 160, .inl (upd fx (nI (ct y 5)).toNatClampNeg x_33)))] H_38 := hP
        have hD : va_D A [((b 0), .inr (15, [.int (cd true true true), .ref (b 1), .ref (b 2), .int 0, .ref (b 3), .ref (b 4), .ref (b 5), .null, .ref (b 6), .int (nI (ct y 5 + 1)), .int 0, .int 0, .int 0, .int 0])), ((b 6), .inl (g 0, 160, .inl (upd fx (nI (ct y 5)).toNatClampNeg x_33)))] := hD
        refine lv_iinc (v := 1) (lv' := [(4, .int 1), (5, .int x_33), (0, .ref (b 0)), (1, .long y)]) hx hb dX13_type_119 hl (k := 1) rfl (by decide) (by decide) rfl (fun ls hl => ?_)
        refine lv_goto (tgt := 74) hx hb dX13_type_122 (by decide) ?_
        have e9 : ct y 6 = ct y 5 + 1 := (show ct y 6 = ct y 5 + (if byt y 16 = 0 then 0 else 1) from rfl).trans (by rw [if_neg (by rw [← hby_33]; exact c_34)])
        have hP8 : va_P (dC, dI) vwCl [((b 0), .inr (15, [.int (cd true true true), .ref (b 1), .ref (b 2), .int 0, .ref (b 3), .ref (b 4), .ref (b 5), .null, .ref (b 6), .int (nI (ct y 6)), .int 0, .int 0, .int 0, .int 0])), ((b 6), .inl (g 0, 160, .inl (upd fx (nI (ct y 5)).toNatClampNeg x_33)))] H_38 := by rw [e9]; exact hP.sub [0, 1] rfl
        have hD8 : va_D A [((b 0), .inr (15, [.int (cd true true true), .ref (b 1), .ref (b 2), .int 0, .ref (b 3), .ref (b 4), .ref (b 5), .null, .ref (b 6), .int (nI (ct y 6)), .int 0, .int 0, .int 0, .int 0])), ((b 6), .inl (g 0, 160, .inl (upd fx (nI (ct y 5)).toNatClampNeg x_33)))] := by rw [e9]; exact hD.sub [0, 1] (by decide) rfl
        exact HD74_6 (upd fx (nI (ct y 5)).toNatClampNeg x_33) _ _  hP8 hD8 hS _ (lv_sub hl [0, 2, 3] rfl)
    have HD74_4 : ∀ (fx : Nat → Int32) (H : Heap) (locs : List Loc), va_P (dC, dI) vwCl [((b 0), .inr (15, [.int (cd true true true), .ref (b 1), .ref (b 2), .int 0, .ref (b 3), .ref (b 4), .ref (b 5), .null, .ref (b 6), .int (nI (ct y 4)), .int 0, .int 0, .int 0, .int 0])), ((b 6), .inl (g 0, 160, .inl fx))] H → va_D A [((b 0), .inr (15, [.int (cd true true true), .ref (b 1), .ref (b 2), .int 0, .ref (b 3), .ref (b 4), .ref (b 5), .null, .ref (b 6), .int (nI (ct y 4)), .int 0, .int 0, .int 0, .int 0])), ((b 6), .inl (g 0, 160, .inl fx))] → va_S A s.heap H locs → ∀ (ls : Array Slot), lv_has ls 6 [(4, .int 3), (0, .ref (b 0)), (1, .long y)] → W p l e (headSpec wsX13_type ({ frames := 1, cells := 0, slots := 0, locals := 23 })).room s m ([.ref (b 0), .long y] : List Value).toArray below meth c H locs 0 0 Q (F0 m 74 ls []) := by
      intro fx H locs  hP hD hS ls hl
      refine lv_iload hx hb dX13_type_74 (lv_at hl 0 rfl) ?_
      refine lv_if_lt (tgt := 125) hx hb dX13_type_76 (by decide) (fun c_40 => absurd c_40 (by decide)) (fun c_40 => ?_)
      refine lv_lload_n hx hb dX13_type_79 rfl (lv_at hl 2 rfl) ?_
      refine lv_bipush (v := 8) hx hb dX13_type_80 (by decide) ?_
      refine lv_iload hx hb dX13_type_82 (lv_at hl 0 rfl) ?_
      refine lv_imul hx hb dX13_type_84 ?_
      refine lv_topi (fun x_41 ex_41 => ?_)
      obtain rfl : x_41 = 24 := ex_41.trans (by decide)
      refine lv_lshr hx hb dX13_type_85 rfl ?_
      refine lv_topl (fun x_42 ex_42 => ?_)
      refine lv_ldc2 hx hb hown hk216 dX13_type_86 ?_
      refine lv_land hx hb dX13_type_89 ?_
      refine lv_topl (fun x_43 ex_43 => ?_)
      refine lv_l2i (v := x_43.toInt32) hx hb dX13_type_90 rfl ?_
      refine lv_topi (fun x_44 ex_44 => ?_)
      have hby_44 : x_44 = byt y 24 := by rw [ex_44, ex_43, ex_42]; exact congrArg Int64.toInt32 (bys_24 y)
      refine lv_istore (lv' := [(5, .int x_44), (4, .int 3), (0, .ref (b 0)), (1, .long y)]) hx hb dX13_type_91 hl (by decide) rfl (fun ls hl => ?_)
      refine lv_iload hx hb dX13_type_93 (lv_at hl 0 rfl) ?_
      refine lv_if_eq (tgt := 119) hx hb dX13_type_95 (by decide) (fun c_45 => ?_) (fun c_45 => ?_)
      · refine lv_iinc (v := 2) (lv' := [(4, .int 2), (5, .int x_44), (0, .ref (b 0)), (1, .long y)]) hx hb dX13_type_119 hl (k := 1) rfl (by decide) (by decide) rfl (fun ls hl => ?_)
        refine lv_goto (tgt := 74) hx hb dX13_type_122 (by decide) ?_
        have e9 : ct y 5 = ct y 4 := (show ct y 5 = ct y 4 + (if byt y 24 = 0 then 0 else 1) from rfl).trans (by rw [if_pos (by rw [← hby_44]; exact c_45), Nat.add_zero])
        have hP8 : va_P (dC, dI) vwCl [((b 0), .inr (15, [.int (cd true true true), .ref (b 1), .ref (b 2), .int 0, .ref (b 3), .ref (b 4), .ref (b 5), .null, .ref (b 6), .int (nI (ct y 5)), .int 0, .int 0, .int 0, .int 0])), ((b 6), .inl (g 0, 160, .inl fx))] H := by rw [e9]; exact hP.sub [0, 1] rfl
        have hD8 : va_D A [((b 0), .inr (15, [.int (cd true true true), .ref (b 1), .ref (b 2), .int 0, .ref (b 3), .ref (b 4), .ref (b 5), .null, .ref (b 6), .int (nI (ct y 5)), .int 0, .int 0, .int 0, .int 0])), ((b 6), .inl (g 0, 160, .inl fx))] := by rw [e9]; exact hD.sub [0, 1] (by decide) rfl
        exact HD74_5 fx _ _  hP8 hD8 hS _ (lv_sub hl [0, 2, 3] rfl)
      · refine lv_aload_n hx hb dX13_type_98 rfl (lv_at hl 2 rfl) ?_
        refine va_get (D := (dC, dI)) (ci := 15) (v := .ref (b 6)) (C := RX13) (T := TX13) (N := 14) hx hb hts hiX13 hown hK hP 0 rfl rfl 8 (by decide) hf38 (fun _ h9 => h9) rfl dX13_type_99 ?_
        refine lv_aload_n hx hb dX13_type_102 rfl (lv_at hl 2 rfl) ?_
        refine va_get (D := (dC, dI)) (ci := 15) (v := .int (nI (ct y 4))) (C := RX13) (T := TX13) (N := 14) hx hb hts hiX13 hown hK hP 0 rfl rfl 9 (by decide) hf218 (fun _ h9 => h9) rfl dX13_type_103 ?_
        refine lv_iload hx hb dX13_type_106 (lv_at hl 0 rfl) ?_
        refine va_iast hx hb hK hP hD hS 1 0 rfl rfl (vp_in_nI (Nat.lt_of_le_of_lt (ct_le y _) (by decide)) (by decide)) dX13_type_108 (fun H_46 L_47 hP hD hS => ?_)
        have hP : va_P (dC, dI) vwCl [((b 0), .inr (15, [.int (cd true true true), .ref (b 1), .ref (b 2), .int 0, .ref (b 3), .ref (b 4), .ref (b 5), .null, .ref (b 6), .int (nI (ct y 4)), .int 0, .int 0, .int 0, .int 0])), ((b 6), .inl (g 0, 160, .inl (upd fx (nI (ct y 4)).toNatClampNeg x_44)))] H_46 := hP
        have hD : va_D A [((b 0), .inr (15, [.int (cd true true true), .ref (b 1), .ref (b 2), .int 0, .ref (b 3), .ref (b 4), .ref (b 5), .null, .ref (b 6), .int (nI (ct y 4)), .int 0, .int 0, .int 0, .int 0])), ((b 6), .inl (g 0, 160, .inl (upd fx (nI (ct y 4)).toNatClampNeg x_44)))] := hD
        refine lv_aload_n hx hb dX13_type_109 rfl (lv_at hl 2 rfl) ?_
        refine lv_dup hx hb dX13_type_110 rfl ?_
        refine va_get (D := (dC, dI)) (ci := 15) (v := .int (nI (ct y 4))) (C := RX13) (T := TX13) (N := 14) hx hb hts hiX13 hown hK hP 0 rfl rfl 9 (by decide) hf218 (fun _ h9 => h9) rfl dX13_type_111 ?_
        refine lv_iconst (v := 1) hx hb dX13_type_114 (by decide) ?_
        refine lv_iadd hx hb dX13_type_115 ?_
        refine lv_topi (fun x_48 ex_48 => ?_)
        obtain rfl : x_48 = nI (ct y 4 + 1) := ex_48.trans (nI_1 _)
        refine va_put (D := (dC, dI)) (ci := 15) (v := .int (nI (ct y 4 + 1))) (ty := .int) (C := RX13) (T := TX13) (N := 14) hx hb hts hiX13 tyX13 tyX13_ok nmX13 hown hK hP hD hS 0 rfl rfl 9 (by decide) hf218 (fun _ h9 => h9) rfl (by decide +kernel) rfl rfl (Nat.le_of_ble_eq_true rfl) dX13_type_116 (fun H_49 L_50 hP hD hS => ?_)
        have hP : va_P (dC, dI) vwCl [((b 0), .inr (15, [.int (cd true true true), .ref (b 1), .ref (b 2), .int 0, .ref (b 3), .ref (b 4), .ref (b 5), .null, .ref (b 6), .int (nI (ct y 4 + 1)), .int 0, .int 0, .int 0, .int 0])), ((b 6), .inl (g 0, 160, .inl (upd fx (nI (ct y 4)).toNatClampNeg x_44)))] H_49 := hP
        have hD : va_D A [((b 0), .inr (15, [.int (cd true true true), .ref (b 1), .ref (b 2), .int 0, .ref (b 3), .ref (b 4), .ref (b 5), .null, .ref (b 6), .int (nI (ct y 4 + 1)), .int 0, .int 0, .int 0, .int 0])), ((b 6), .inl (g 0, 160, .inl (upd fx (nI (ct y 4)).toNatClampNeg x_44)))] := hD
        refine lv_iinc (v := 2) (lv' := [(4, .int 2), (5, .int x_44), (0, .ref (b 0)), (1, .long y)]) hx hb dX13_type_119 hl (k := 1) rfl (by decide) (by decide) rfl (fun ls hl => ?_)
        refine lv_goto (tgt := 74) hx hb dX13_type_122 (by decide) ?_
        have e9 : ct y 5 = ct y 4 + 1 := (show ct y 5 = ct y 4 + (if byt y 24 = 0 then 0 else 1) from rfl).trans (by rw [if_neg (by rw [← hby_44]; exact c_45)])
        have hP8 : va_P (dC, dI) vwCl [((b 0), .inr (15, [.int (cd true true true), .ref (b 1), .ref (b 2), .int 0, .ref (b 3), .ref (b 4), .ref (b 5), .null, .ref (b 6), .int (nI (ct y 5)), .int 0, .int 0, .int 0, .int 0])), ((b 6), .inl (g 0, 160, .inl (upd fx (nI (ct y 4)).toNatClampNeg x_44)))] H_49 := by rw [e9]; exact hP.sub [0, 1] rfl
        have hD8 : va_D A [((b 0), .inr (15, [.int (cd true true true), .ref (b 1), .ref (b 2), .int 0, .ref (b 3), .ref (b 4), .ref (b 5), .null, .ref (b 6), .int (nI (ct y 5)), .int 0, .int 0, .int 0, .int 0])), ((b 6), .inl (g 0, 160, .inl (upd fx (nI (ct y 4)).toNatClampNeg x_44)))] := by rw [e9]; exact hD.sub [0, 1] (by decide) rfl
        exact HD74_5 (upd fx (nI (ct y 4)).toNatClampNeg x_44) _ _  hP8 hD8 hS _ (lv_sub hl [0, 2, 3] rfl)
    have HD74_3 : ∀ (fx : Nat → Int32) (H : Heap) (locs : List Loc), va_P (dC, dI) vwCl [((b 0), .inr (15, [.int (cd true true true), .ref (b 1), .ref (b 2), .int 0, .ref (b 3), .ref (b 4), .ref (b 5), .null, .ref (b 6), .int (nI (ct y 3)), .int 0, .int 0, .int 0, .int 0])), ((b 6), .inl (g 0, 160, .inl fx))] H → va_D A [((b 0), .inr (15, [.int (cd true true true), .ref (b 1), .ref (b 2), .int 0, .ref (b 3), .ref (b 4), .ref (b 5), .null, .ref (b 6), .int (nI (ct y 3)), .int 0, .int 0, .int 0, .int 0])), ((b 6), .inl (g 0, 160, .inl fx))] → va_S A s.heap H locs → ∀ (ls : Array Slot), lv_has ls 6 [(4, .int 4), (0, .ref (b 0)), (1, .long y)] → W p l e (headSpec wsX13_type ({ frames := 1, cells := 0, slots := 0, locals := 23 })).room s m ([.ref (b 0), .long y] : List Value).toArray below meth c H locs 0 0 Q (F0 m 74 ls []) := by
      intro fx H locs  hP hD hS ls hl
      refine lv_iload hx hb dX13_type_74 (lv_at hl 0 rfl) ?_
      refine lv_if_lt (tgt := 125) hx hb dX13_type_76 (by decide) (fun c_51 => absurd c_51 (by decide)) (fun c_51 => ?_)
      refine lv_lload_n hx hb dX13_type_79 rfl (lv_at hl 2 rfl) ?_
      refine lv_bipush (v := 8) hx hb dX13_type_80 (by decide) ?_
      refine lv_iload hx hb dX13_type_82 (lv_at hl 0 rfl) ?_
      refine lv_imul hx hb dX13_type_84 ?_
      refine lv_topi (fun x_52 ex_52 => ?_)
      obtain rfl : x_52 = 32 := ex_52.trans (by decide)
      refine lv_lshr hx hb dX13_type_85 rfl ?_
      refine lv_topl (fun x_53 ex_53 => ?_)
      refine lv_ldc2 hx hb hown hk216 dX13_type_86 ?_
      refine lv_land hx hb dX13_type_89 ?_
      refine lv_topl (fun x_54 ex_54 => ?_)
      refine lv_l2i (v := x_54.toInt32) hx hb dX13_type_90 rfl ?_
      refine lv_topi (fun x_55 ex_55 => ?_)
      have hby_55 : x_55 = byt y 32 := by rw [ex_55, ex_54, ex_53]; exact congrArg Int64.toInt32 (bys_32 y)
      refine lv_istore (lv' := [(5, .int x_55), (4, .int 4), (0, .ref (b 0)), (1, .long y)]) hx hb dX13_type_91 hl (by decide) rfl (fun ls hl => ?_)
      refine lv_iload hx hb dX13_type_93 (lv_at hl 0 rfl) ?_
      refine lv_if_eq (tgt := 119) hx hb dX13_type_95 (by decide) (fun c_56 => ?_) (fun c_56 => ?_)
      · refine lv_iinc (v := 3) (lv' := [(4, .int 3), (5, .int x_55), (0, .ref (b 0)), (1, .long y)]) hx hb dX13_type_119 hl (k := 1) rfl (by decide) (by decide) rfl (fun ls hl => ?_)
        refine lv_goto (tgt := 74) hx hb dX13_type_122 (by decide) ?_
        have e9 : ct y 4 = ct y 3 := (show ct y 4 = ct y 3 + (if byt y 32 = 0 then 0 else 1) from rfl).trans (by rw [if_pos (by rw [← hby_55]; exact c_56), Nat.add_zero])
        have hP8 : va_P (dC, dI) vwCl [((b 0), .inr (15, [.int (cd true true true), .ref (b 1), .ref (b 2), .int 0, .ref (b 3), .ref (b 4), .ref (b 5), .null, .ref (b 6), .int (nI (ct y 4)), .int 0, .int 0, .int 0, .int 0])), ((b 6), .inl (g 0, 160, .inl fx))] H := by rw [e9]; exact hP.sub [0, 1] rfl
        have hD8 : va_D A [((b 0), .inr (15, [.int (cd true true true), .ref (b 1), .ref (b 2), .int 0, .ref (b 3), .ref (b 4), .ref (b 5), .null, .ref (b 6), .int (nI (ct y 4)), .int 0, .int 0, .int 0, .int 0])), ((b 6), .inl (g 0, 160, .inl fx))] := by rw [e9]; exact hD.sub [0, 1] (by decide) rfl
        exact HD74_4 fx _ _  hP8 hD8 hS _ (lv_sub hl [0, 2, 3] rfl)
      · refine lv_aload_n hx hb dX13_type_98 rfl (lv_at hl 2 rfl) ?_
        refine va_get (D := (dC, dI)) (ci := 15) (v := .ref (b 6)) (C := RX13) (T := TX13) (N := 14) hx hb hts hiX13 hown hK hP 0 rfl rfl 8 (by decide) hf38 (fun _ h9 => h9) rfl dX13_type_99 ?_
        refine lv_aload_n hx hb dX13_type_102 rfl (lv_at hl 2 rfl) ?_
        refine va_get (D := (dC, dI)) (ci := 15) (v := .int (nI (ct y 3))) (C := RX13) (T := TX13) (N := 14) hx hb hts hiX13 hown hK hP 0 rfl rfl 9 (by decide) hf218 (fun _ h9 => h9) rfl dX13_type_103 ?_
        refine lv_iload hx hb dX13_type_106 (lv_at hl 0 rfl) ?_
        refine va_iast hx hb hK hP hD hS 1 0 rfl rfl (vp_in_nI (Nat.lt_of_le_of_lt (ct_le y _) (by decide)) (by decide)) dX13_type_108 (fun H_57 L_58 hP hD hS => ?_)
        have hP : va_P (dC, dI) vwCl [((b 0), .inr (15, [.int (cd true true true), .ref (b 1), .ref (b 2), .int 0, .ref (b 3), .ref (b 4), .ref (b 5), .null, .ref (b 6), .int (nI (ct y 3)), .int 0, .int 0, .int 0, .int 0])), ((b 6), .inl (g 0, 160, .inl (upd fx (nI (ct y 3)).toNatClampNeg x_55)))] H_57 := hP
        have hD : va_D A [((b 0), .inr (15, [.int (cd true true true), .ref (b 1), .ref (b 2), .int 0, .ref (b 3), .ref (b 4), .ref (b 5), .null, .ref (b 6), .int (nI (ct y 3)), .int 0, .int 0, .int 0, .int 0])), ((b 6), .inl (g 0, 160, .inl (upd fx (nI (ct y 3)).toNatClampNeg x_55)))] := hD
        refine lv_aload_n hx hb dX13_type_109 rfl (lv_at hl 2 rfl) ?_
        refine lv_dup hx hb dX13_type_110 rfl ?_
        refine va_get (D := (dC, dI)) (ci := 15) (v := .int (nI (ct y 3))) (C := RX13) (T := TX13) (N := 14) hx hb hts hiX13 hown hK hP 0 rfl rfl 9 (by decide) hf218 (fun _ h9 => h9) rfl dX13_type_111 ?_
        refine lv_iconst (v := 1) hx hb dX13_type_114 (by decide) ?_
        refine lv_iadd hx hb dX13_type_115 ?_
        refine lv_topi (fun x_59 ex_59 => ?_)
        obtain rfl : x_59 = nI (ct y 3 + 1) := ex_59.trans (nI_1 _)
        refine va_put (D := (dC, dI)) (ci := 15) (v := .int (nI (ct y 3 + 1))) (ty := .int) (C := RX13) (T := TX13) (N := 14) hx hb hts hiX13 tyX13 tyX13_ok nmX13 hown hK hP hD hS 0 rfl rfl 9 (by decide) hf218 (fun _ h9 => h9) rfl (by decide +kernel) rfl rfl (Nat.le_of_ble_eq_true rfl) dX13_type_116 (fun H_60 L_61 hP hD hS => ?_)
        have hP : va_P (dC, dI) vwCl [((b 0), .inr (15, [.int (cd true true true), .ref (b 1), .ref (b 2), .int 0, .ref (b 3), .ref (b 4), .ref (b 5), .null, .ref (b 6), .int (nI (ct y 3 + 1)), .int 0, .int 0, .int 0, .int 0])), ((b 6), .inl (g 0, 160, .inl (upd fx (nI (ct y 3)).toNatClampNeg x_55)))] H_60 := hP
        have hD : va_D A [((b 0), .inr (15, [.int (cd true true true), .ref (b 1), .ref (b 2), .int 0, .ref (b 3), .ref (b 4), .ref (b 5), .null, .ref (b 6), .int (nI (ct y 3 + 1)), .int 0, .int 0, .int 0, .int 0])), ((b 6), .inl (g 0, 160, .inl (upd fx (nI (ct y 3)).toNatClampNeg x_55)))] := hD
        refine lv_iinc (v := 3) (lv' := [(4, .int 3), (5, .int x_55), (0, .ref (b 0)), (1, .long y)]) hx hb dX13_type_119 hl (k := 1) rfl (by decide) (by decide) rfl (fun ls hl => ?_)
        refine lv_goto (tgt := 74) hx hb dX13_type_122 (by decide) ?_
        have e9 : ct y 4 = ct y 3 + 1 := (show ct y 4 = ct y 3 + (if byt y 32 = 0 then 0 else 1) from rfl).trans (by rw [if_neg (by rw [← hby_55]; exact c_56)])
        have hP8 : va_P (dC, dI) vwCl [((b 0), .inr (15, [.int (cd true true true), .ref (b 1), .ref (b 2), .int 0, .ref (b 3), .ref (b 4), .ref (b 5), .null, .ref (b 6), .int (nI (ct y 4)), .int 0, .int 0, .int 0, .int 0])), ((b 6), .inl (g 0, 160, .inl (upd fx (nI (ct y 3)).toNatClampNeg x_55)))] H_60 := by rw [e9]; exact hP.sub [0, 1] rfl
        have hD8 : va_D A [((b 0), .inr (15, [.int (cd true true true), .ref (b 1), .ref (b 2), .int 0, .ref (b 3), .ref (b 4), .ref (b 5), .null, .ref (b 6), .int (nI (ct y 4)), .int 0, .int 0, .int 0, .int 0])), ((b 6), .inl (g 0, 160, .inl (upd fx (nI (ct y 3)).toNatClampNeg x_55)))] := by rw [e9]; exact hD.sub [0, 1] (by decide) rfl
        exact HD74_4 (upd fx (nI (ct y 3)).toNatClampNeg x_55) _ _  hP8 hD8 hS _ (lv_sub hl [0, 2, 3] rfl)
    have HD74_2 : ∀ (fx : Nat → Int32) (H : Heap) (locs : List Loc), va_P (dC, dI) vwCl [((b 0), .inr (15, [.int (cd true true true), .ref (b 1), .ref (b 2), .int 0, .ref (b 3), .ref (b 4), .ref (b 5), .null, .ref (b 6), .int (nI (ct y 2)), .int 0, .int 0, .int 0, .int 0])), ((b 6), .inl (g 0, 160, .inl fx))] H → va_D A [((b 0), .inr (15, [.int (cd true true true), .ref (b 1), .ref (b 2), .int 0, .ref (b 3), .ref (b 4), .ref (b 5), .null, .ref (b 6), .int (nI (ct y 2)), .int 0, .int 0, .int 0, .int 0])), ((b 6), .inl (g 0, 160, .inl fx))] → va_S A s.heap H locs → ∀ (ls : Array Slot), lv_has ls 6 [(4, .int 5), (0, .ref (b 0)), (1, .long y)] → W p l e (headSpec wsX13_type ({ frames := 1, cells := 0, slots := 0, locals := 23 })).room s m ([.ref (b 0), .long y] : List Value).toArray below meth c H locs 0 0 Q (F0 m 74 ls []) := by
      intro fx H locs  hP hD hS ls hl
      refine lv_iload hx hb dX13_type_74 (lv_at hl 0 rfl) ?_
      refine lv_if_lt (tgt := 125) hx hb dX13_type_76 (by decide) (fun c_62 => absurd c_62 (by decide)) (fun c_62 => ?_)
      refine lv_lload_n hx hb dX13_type_79 rfl (lv_at hl 2 rfl) ?_
      refine lv_bipush (v := 8) hx hb dX13_type_80 (by decide) ?_
      refine lv_iload hx hb dX13_type_82 (lv_at hl 0 rfl) ?_
      refine lv_imul hx hb dX13_type_84 ?_
      refine lv_topi (fun x_63 ex_63 => ?_)
      obtain rfl : x_63 = 40 := ex_63.trans (by decide)
      refine lv_lshr hx hb dX13_type_85 rfl ?_
      refine lv_topl (fun x_64 ex_64 => ?_)
      refine lv_ldc2 hx hb hown hk216 dX13_type_86 ?_
      refine lv_land hx hb dX13_type_89 ?_
      refine lv_topl (fun x_65 ex_65 => ?_)
      refine lv_l2i (v := x_65.toInt32) hx hb dX13_type_90 rfl ?_
      refine lv_topi (fun x_66 ex_66 => ?_)
      have hby_66 : x_66 = byt y 40 := by rw [ex_66, ex_65, ex_64]; exact congrArg Int64.toInt32 (bys_40 y)
      refine lv_istore (lv' := [(5, .int x_66), (4, .int 5), (0, .ref (b 0)), (1, .long y)]) hx hb dX13_type_91 hl (by decide) rfl (fun ls hl => ?_)
      refine lv_iload hx hb dX13_type_93 (lv_at hl 0 rfl) ?_
      refine lv_if_eq (tgt := 119) hx hb dX13_type_95 (by decide) (fun c_67 => ?_) (fun c_67 => ?_)
      · refine lv_iinc (v := 4) (lv' := [(4, .int 4), (5, .int x_66), (0, .ref (b 0)), (1, .long y)]) hx hb dX13_type_119 hl (k := 1) rfl (by decide) (by decide) rfl (fun ls hl => ?_)
        refine lv_goto (tgt := 74) hx hb dX13_type_122 (by decide) ?_
        have e9 : ct y 3 = ct y 2 := (show ct y 3 = ct y 2 + (if byt y 40 = 0 then 0 else 1) from rfl).trans (by rw [if_pos (by rw [← hby_66]; exact c_67), Nat.add_zero])
        have hP8 : va_P (dC, dI) vwCl [((b 0), .inr (15, [.int (cd true true true), .ref (b 1), .ref (b 2), .int 0, .ref (b 3), .ref (b 4), .ref (b 5), .null, .ref (b 6), .int (nI (ct y 3)), .int 0, .int 0, .int 0, .int 0])), ((b 6), .inl (g 0, 160, .inl fx))] H := by rw [e9]; exact hP.sub [0, 1] rfl
        have hD8 : va_D A [((b 0), .inr (15, [.int (cd true true true), .ref (b 1), .ref (b 2), .int 0, .ref (b 3), .ref (b 4), .ref (b 5), .null, .ref (b 6), .int (nI (ct y 3)), .int 0, .int 0, .int 0, .int 0])), ((b 6), .inl (g 0, 160, .inl fx))] := by rw [e9]; exact hD.sub [0, 1] (by decide) rfl
        exact HD74_3 fx _ _  hP8 hD8 hS _ (lv_sub hl [0, 2, 3] rfl)
      · refine lv_aload_n hx hb dX13_type_98 rfl (lv_at hl 2 rfl) ?_
        refine va_get (D := (dC, dI)) (ci := 15) (v := .ref (b 6)) (C := RX13) (T := TX13) (N := 14) hx hb hts hiX13 hown hK hP 0 rfl rfl 8 (by decide) hf38 (fun _ h9 => h9) rfl dX13_type_99 ?_
        refine lv_aload_n hx hb dX13_type_102 rfl (lv_at hl 2 rfl) ?_
        refine va_get (D := (dC, dI)) (ci := 15) (v := .int (nI (ct y 2))) (C := RX13) (T := TX13) (N := 14) hx hb hts hiX13 hown hK hP 0 rfl rfl 9 (by decide) hf218 (fun _ h9 => h9) rfl dX13_type_103 ?_
        refine lv_iload hx hb dX13_type_106 (lv_at hl 0 rfl) ?_
        refine va_iast hx hb hK hP hD hS 1 0 rfl rfl (vp_in_nI (Nat.lt_of_le_of_lt (ct_le y _) (by decide)) (by decide)) dX13_type_108 (fun H_68 L_69 hP hD hS => ?_)
        have hP : va_P (dC, dI) vwCl [((b 0), .inr (15, [.int (cd true true true), .ref (b 1), .ref (b 2), .int 0, .ref (b 3), .ref (b 4), .ref (b 5), .null, .ref (b 6), .int (nI (ct y 2)), .int 0, .int 0, .int 0, .int 0])), ((b 6), .inl (g 0, 160, .inl (upd fx (nI (ct y 2)).toNatClampNeg x_66)))] H_68 := hP
        have hD : va_D A [((b 0), .inr (15, [.int (cd true true true), .ref (b 1), .ref (b 2), .int 0, .ref (b 3), .ref (b 4), .ref (b 5), .null, .ref (b 6), .int (nI (ct y 2)), .int 0, .int 0, .int 0, .int 0])), ((b 6), .inl (g 0, 160, .inl (upd fx (nI (ct y 2)).toNatClampNeg x_66)))] := hD
        refine lv_aload_n hx hb dX13_type_109 rfl (lv_at hl 2 rfl) ?_
        refine lv_dup hx hb dX13_type_110 rfl ?_
        refine va_get (D := (dC, dI)) (ci := 15) (v := .int (nI (ct y 2))) (C := RX13) (T := TX13) (N := 14) hx hb hts hiX13 hown hK hP 0 rfl rfl 9 (by decide) hf218 (fun _ h9 => h9) rfl dX13_type_111 ?_
        refine lv_iconst (v := 1) hx hb dX13_type_114 (by decide) ?_
        refine lv_iadd hx hb dX13_type_115 ?_
        refine lv_topi (fun x_70 ex_70 => ?_)
        obtain rfl : x_70 = nI (ct y 2 + 1) := ex_70.trans (nI_1 _)
        refine va_put (D := (dC, dI)) (ci := 15) (v := .int (nI (ct y 2 + 1))) (ty := .int) (C := RX13) (T := TX13) (N := 14) hx hb hts hiX13 tyX13 tyX13_ok nmX13 hown hK hP hD hS 0 rfl rfl 9 (by decide) hf218 (fun _ h9 => h9) rfl (by decide +kernel) rfl rfl (Nat.le_of_ble_eq_true rfl) dX13_type_116 (fun H_71 L_72 hP hD hS => ?_)
        have hP : va_P (dC, dI) vwCl [((b 0), .inr (15, [.int (cd true true true), .ref (b 1), .ref (b 2), .int 0, .ref (b 3), .ref (b 4), .ref (b 5), .null, .ref (b 6), .int (nI (ct y 2 + 1)), .int 0, .int 0, .int 0, .int 0])), ((b 6), .inl (g 0, 160, .inl (upd fx (nI (ct y 2)).toNatClampNeg x_66)))] H_71 := hP
        have hD : va_D A [((b 0), .inr (15, [.int (cd true true true), .ref (b 1), .ref (b 2), .int 0, .ref (b 3), .ref (b 4), .ref (b 5), .null, .ref (b 6), .int (nI (ct y 2 + 1)), .int 0, .int 0, .int 0, .int 0])), ((b 6), .inl (g 0, 160, .inl (upd fx (nI (ct y 2)).toNatClampNeg x_66)))] := hD
        refine lv_iinc (v := 4) (lv' := [(4, .int 4), (5, .int x_66), (0, .ref (b 0)), (1, .long y)]) hx hb dX13_type_119 hl (k := 1) rfl (by decide) (by decide) rfl (fun ls hl => ?_)
        refine lv_goto (tgt := 74) hx hb dX13_type_122 (by decide) ?_
        have e9 : ct y 3 = ct y 2 + 1 := (show ct y 3 = ct y 2 + (if byt y 40 = 0 then 0 else 1) from rfl).trans (by rw [if_neg (by rw [← hby_66]; exact c_67)])
        have hP8 : va_P (dC, dI) vwCl [((b 0), .inr (15, [.int (cd true true true), .ref (b 1), .ref (b 2), .int 0, .ref (b 3), .ref (b 4), .ref (b 5), .null, .ref (b 6), .int (nI (ct y 3)), .int 0, .int 0, .int 0, .int 0])), ((b 6), .inl (g 0, 160, .inl (upd fx (nI (ct y 2)).toNatClampNeg x_66)))] H_71 := by rw [e9]; exact hP.sub [0, 1] rfl
        have hD8 : va_D A [((b 0), .inr (15, [.int (cd true true true), .ref (b 1), .ref (b 2), .int 0, .ref (b 3), .ref (b 4), .ref (b 5), .null, .ref (b 6), .int (nI (ct y 3)), .int 0, .int 0, .int 0, .int 0])), ((b 6), .inl (g 0, 160, .inl (upd fx (nI (ct y 2)).toNatClampNeg x_66)))] := by rw [e9]; exact hD.sub [0, 1] (by decide) rfl
        exact HD74_3 (upd fx (nI (ct y 2)).toNatClampNeg x_66) _ _  hP8 hD8 hS _ (lv_sub hl [0, 2, 3] rfl)
    have HD74_1 : ∀ (fx : Nat → Int32) (H : Heap) (locs : List Loc), va_P (dC, dI) vwCl [((b 0), .inr (15, [.int (cd true true true), .ref (b 1), .ref (b 2), .int 0, .ref (b 3), .ref (b 4), .ref (b 5), .null, .ref (b 6), .int (nI (ct y 1)), .int 0, .int 0, .int 0, .int 0])), ((b 6), .inl (g 0, 160, .inl fx))] H → va_D A [((b 0), .inr (15, [.int (cd true true true), .ref (b 1), .ref (b 2), .int 0, .ref (b 3), .ref (b 4), .ref (b 5), .null, .ref (b 6), .int (nI (ct y 1)), .int 0, .int 0, .int 0, .int 0])), ((b 6), .inl (g 0, 160, .inl fx))] → va_S A s.heap H locs → ∀ (ls : Array Slot), lv_has ls 6 [(4, .int 6), (0, .ref (b 0)), (1, .long y)] → W p l e (headSpec wsX13_type ({ frames := 1, cells := 0, slots := 0, locals := 23 })).room s m ([.ref (b 0), .long y] : List Value).toArray below meth c H locs 0 0 Q (F0 m 74 ls []) := by
      intro fx H locs  hP hD hS ls hl
      refine lv_iload hx hb dX13_type_74 (lv_at hl 0 rfl) ?_
      refine lv_if_lt (tgt := 125) hx hb dX13_type_76 (by decide) (fun c_73 => absurd c_73 (by decide)) (fun c_73 => ?_)
      refine lv_lload_n hx hb dX13_type_79 rfl (lv_at hl 2 rfl) ?_
      refine lv_bipush (v := 8) hx hb dX13_type_80 (by decide) ?_
      refine lv_iload hx hb dX13_type_82 (lv_at hl 0 rfl) ?_
      refine lv_imul hx hb dX13_type_84 ?_
      refine lv_topi (fun x_74 ex_74 => ?_)
      obtain rfl : x_74 = 48 := ex_74.trans (by decide)
      refine lv_lshr hx hb dX13_type_85 rfl ?_
      refine lv_topl (fun x_75 ex_75 => ?_)
      refine lv_ldc2 hx hb hown hk216 dX13_type_86 ?_
      refine lv_land hx hb dX13_type_89 ?_
      refine lv_topl (fun x_76 ex_76 => ?_)
      refine lv_l2i (v := x_76.toInt32) hx hb dX13_type_90 rfl ?_
      refine lv_topi (fun x_77 ex_77 => ?_)
      have hby_77 : x_77 = byt y 48 := by rw [ex_77, ex_76, ex_75]; exact congrArg Int64.toInt32 (bys_48 y)
      refine lv_istore (lv' := [(5, .int x_77), (4, .int 6), (0, .ref (b 0)), (1, .long y)]) hx hb dX13_type_91 hl (by decide) rfl (fun ls hl => ?_)
      refine lv_iload hx hb dX13_type_93 (lv_at hl 0 rfl) ?_
      refine lv_if_eq (tgt := 119) hx hb dX13_type_95 (by decide) (fun c_78 => ?_) (fun c_78 => ?_)
      · refine lv_iinc (v := 5) (lv' := [(4, .int 5), (5, .int x_77), (0, .ref (b 0)), (1, .long y)]) hx hb dX13_type_119 hl (k := 1) rfl (by decide) (by decide) rfl (fun ls hl => ?_)
        refine lv_goto (tgt := 74) hx hb dX13_type_122 (by decide) ?_
        have e9 : ct y 2 = ct y 1 := (show ct y 2 = ct y 1 + (if byt y 48 = 0 then 0 else 1) from rfl).trans (by rw [if_pos (by rw [← hby_77]; exact c_78), Nat.add_zero])
        have hP8 : va_P (dC, dI) vwCl [((b 0), .inr (15, [.int (cd true true true), .ref (b 1), .ref (b 2), .int 0, .ref (b 3), .ref (b 4), .ref (b 5), .null, .ref (b 6), .int (nI (ct y 2)), .int 0, .int 0, .int 0, .int 0])), ((b 6), .inl (g 0, 160, .inl fx))] H := by rw [e9]; exact hP.sub [0, 1] rfl
        have hD8 : va_D A [((b 0), .inr (15, [.int (cd true true true), .ref (b 1), .ref (b 2), .int 0, .ref (b 3), .ref (b 4), .ref (b 5), .null, .ref (b 6), .int (nI (ct y 2)), .int 0, .int 0, .int 0, .int 0])), ((b 6), .inl (g 0, 160, .inl fx))] := by rw [e9]; exact hD.sub [0, 1] (by decide) rfl
        exact HD74_2 fx _ _  hP8 hD8 hS _ (lv_sub hl [0, 2, 3] rfl)
      · refine lv_aload_n hx hb dX13_type_98 rfl (lv_at hl 2 rfl) ?_
        refine va_get (D := (dC, dI)) (ci := 15) (v := .ref (b 6)) (C := RX13) (T := TX13) (N := 14) hx hb hts hiX13 hown hK hP 0 rfl rfl 8 (by decide) hf38 (fun _ h9 => h9) rfl dX13_type_99 ?_
        refine lv_aload_n hx hb dX13_type_102 rfl (lv_at hl 2 rfl) ?_
        refine va_get (D := (dC, dI)) (ci := 15) (v := .int (nI (ct y 1))) (C := RX13) (T := TX13) (N := 14) hx hb hts hiX13 hown hK hP 0 rfl rfl 9 (by decide) hf218 (fun _ h9 => h9) rfl dX13_type_103 ?_
        refine lv_iload hx hb dX13_type_106 (lv_at hl 0 rfl) ?_
        refine va_iast hx hb hK hP hD hS 1 0 rfl rfl (vp_in_nI (Nat.lt_of_le_of_lt (ct_le y _) (by decide)) (by decide)) dX13_type_108 (fun H_79 L_80 hP hD hS => ?_)
        have hP : va_P (dC, dI) vwCl [((b 0), .inr (15, [.int (cd true true true), .ref (b 1), .ref (b 2), .int 0, .ref (b 3), .ref (b 4), .ref (b 5), .null, .ref (b 6), .int (nI (ct y 1)), .int 0, .int 0, .int 0, .int 0])), ((b 6), .inl (g 0, 160, .inl (upd fx (nI (ct y 1)).toNatClampNeg x_77)))] H_79 := hP
        have hD : va_D A [((b 0), .inr (15, [.int (cd true true true), .ref (b 1), .ref (b 2), .int 0, .ref (b 3), .ref (b 4), .ref (b 5), .null, .ref (b 6), .int (nI (ct y 1)), .int 0, .int 0, .int 0, .int 0])), ((b 6), .inl (g 0, 160, .inl (upd fx (nI (ct y 1)).toNatClampNeg x_77)))] := hD
        refine lv_aload_n hx hb dX13_type_109 rfl (lv_at hl 2 rfl) ?_
        refine lv_dup hx hb dX13_type_110 rfl ?_
        refine va_get (D := (dC, dI)) (ci := 15) (v := .int (nI (ct y 1))) (C := RX13) (T := TX13) (N := 14) hx hb hts hiX13 hown hK hP 0 rfl rfl 9 (by decide) hf218 (fun _ h9 => h9) rfl dX13_type_111 ?_
        refine lv_iconst (v := 1) hx hb dX13_type_114 (by decide) ?_
        refine lv_iadd hx hb dX13_type_115 ?_
        refine lv_topi (fun x_81 ex_81 => ?_)
        obtain rfl : x_81 = nI (ct y 1 + 1) := ex_81.trans (nI_1 _)
        refine va_put (D := (dC, dI)) (ci := 15) (v := .int (nI (ct y 1 + 1))) (ty := .int) (C := RX13) (T := TX13) (N := 14) hx hb hts hiX13 tyX13 tyX13_ok nmX13 hown hK hP hD hS 0 rfl rfl 9 (by decide) hf218 (fun _ h9 => h9) rfl (by decide +kernel) rfl rfl (Nat.le_of_ble_eq_true rfl) dX13_type_116 (fun H_82 L_83 hP hD hS => ?_)
        have hP : va_P (dC, dI) vwCl [((b 0), .inr (15, [.int (cd true true true), .ref (b 1), .ref (b 2), .int 0, .ref (b 3), .ref (b 4), .ref (b 5), .null, .ref (b 6), .int (nI (ct y 1 + 1)), .int 0, .int 0, .int 0, .int 0])), ((b 6), .inl (g 0, 160, .inl (upd fx (nI (ct y 1)).toNatClampNeg x_77)))] H_82 := hP
        have hD : va_D A [((b 0), .inr (15, [.int (cd true true true), .ref (b 1), .ref (b 2), .int 0, .ref (b 3), .ref (b 4), .ref (b 5), .null, .ref (b 6), .int (nI (ct y 1 + 1)), .int 0, .int 0, .int 0, .int 0])), ((b 6), .inl (g 0, 160, .inl (upd fx (nI (ct y 1)).toNatClampNeg x_77)))] := hD
        refine lv_iinc (v := 5) (lv' := [(4, .int 5), (5, .int x_77), (0, .ref (b 0)), (1, .long y)]) hx hb dX13_type_119 hl (k := 1) rfl (by decide) (by decide) rfl (fun ls hl => ?_)
        refine lv_goto (tgt := 74) hx hb dX13_type_122 (by decide) ?_
        have e9 : ct y 2 = ct y 1 + 1 := (show ct y 2 = ct y 1 + (if byt y 48 = 0 then 0 else 1) from rfl).trans (by rw [if_neg (by rw [← hby_77]; exact c_78)])
        have hP8 : va_P (dC, dI) vwCl [((b 0), .inr (15, [.int (cd true true true), .ref (b 1), .ref (b 2), .int 0, .ref (b 3), .ref (b 4), .ref (b 5), .null, .ref (b 6), .int (nI (ct y 2)), .int 0, .int 0, .int 0, .int 0])), ((b 6), .inl (g 0, 160, .inl (upd fx (nI (ct y 1)).toNatClampNeg x_77)))] H_82 := by rw [e9]; exact hP.sub [0, 1] rfl
        have hD8 : va_D A [((b 0), .inr (15, [.int (cd true true true), .ref (b 1), .ref (b 2), .int 0, .ref (b 3), .ref (b 4), .ref (b 5), .null, .ref (b 6), .int (nI (ct y 2)), .int 0, .int 0, .int 0, .int 0])), ((b 6), .inl (g 0, 160, .inl (upd fx (nI (ct y 1)).toNatClampNeg x_77)))] := by rw [e9]; exact hD.sub [0, 1] (by decide) rfl
        exact HD74_2 (upd fx (nI (ct y 1)).toNatClampNeg x_77) _ _  hP8 hD8 hS _ (lv_sub hl [0, 2, 3] rfl)
    have HD74_0 : ∀ (fx : Nat → Int32) (H : Heap) (locs : List Loc), va_P (dC, dI) vwCl [((b 0), .inr (15, [.int (cd true true true), .ref (b 1), .ref (b 2), .int 0, .ref (b 3), .ref (b 4), .ref (b 5), .null, .ref (b 6), .int (nI (ct y 0)), .int 0, .int 0, .int 0, .int 0])), ((b 6), .inl (g 0, 160, .inl fx))] H → va_D A [((b 0), .inr (15, [.int (cd true true true), .ref (b 1), .ref (b 2), .int 0, .ref (b 3), .ref (b 4), .ref (b 5), .null, .ref (b 6), .int (nI (ct y 0)), .int 0, .int 0, .int 0, .int 0])), ((b 6), .inl (g 0, 160, .inl fx))] → va_S A s.heap H locs → ∀ (ls : Array Slot), lv_has ls 6 [(4, .int 7), (0, .ref (b 0)), (1, .long y)] → W p l e (headSpec wsX13_type ({ frames := 1, cells := 0, slots := 0, locals := 23 })).room s m ([.ref (b 0), .long y] : List Value).toArray below meth c H locs 0 0 Q (F0 m 74 ls []) := by
      intro fx H locs  hP hD hS ls hl
      refine lv_iload hx hb dX13_type_74 (lv_at hl 0 rfl) ?_
      refine lv_if_lt (tgt := 125) hx hb dX13_type_76 (by decide) (fun c_84 => absurd c_84 (by decide)) (fun c_84 => ?_)
      refine lv_lload_n hx hb dX13_type_79 rfl (lv_at hl 2 rfl) ?_
      refine lv_bipush (v := 8) hx hb dX13_type_80 (by decide) ?_
      refine lv_iload hx hb dX13_type_82 (lv_at hl 0 rfl) ?_
      refine lv_imul hx hb dX13_type_84 ?_
      refine lv_topi (fun x_85 ex_85 => ?_)
      obtain rfl : x_85 = 56 := ex_85.trans (by decide)
      refine lv_lshr hx hb dX13_type_85 rfl ?_
      refine lv_topl (fun x_86 ex_86 => ?_)
      refine lv_ldc2 hx hb hown hk216 dX13_type_86 ?_
      refine lv_land hx hb dX13_type_89 ?_
      refine lv_topl (fun x_87 ex_87 => ?_)
      refine lv_l2i (v := x_87.toInt32) hx hb dX13_type_90 rfl ?_
      refine lv_topi (fun x_88 ex_88 => ?_)
      have hby_88 : x_88 = byt y 56 := by rw [ex_88, ex_87, ex_86]; exact congrArg Int64.toInt32 (bys_56 y)
      refine lv_istore (lv' := [(5, .int x_88), (4, .int 7), (0, .ref (b 0)), (1, .long y)]) hx hb dX13_type_91 hl (by decide) rfl (fun ls hl => ?_)
      refine lv_iload hx hb dX13_type_93 (lv_at hl 0 rfl) ?_
      refine lv_if_eq (tgt := 119) hx hb dX13_type_95 (by decide) (fun c_89 => ?_) (fun c_89 => ?_)
      · refine lv_iinc (v := 6) (lv' := [(4, .int 6), (5, .int x_88), (0, .ref (b 0)), (1, .long y)]) hx hb dX13_type_119 hl (k := 1) rfl (by decide) (by decide) rfl (fun ls hl => ?_)
        refine lv_goto (tgt := 74) hx hb dX13_type_122 (by decide) ?_
        have e9 : ct y 1 = ct y 0 := (show ct y 1 = ct y 0 + (if byt y 56 = 0 then 0 else 1) from rfl).trans (by rw [if_pos (by rw [← hby_88]; exact c_89), Nat.add_zero])
        have hP8 : va_P (dC, dI) vwCl [((b 0), .inr (15, [.int (cd true true true), .ref (b 1), .ref (b 2), .int 0, .ref (b 3), .ref (b 4), .ref (b 5), .null, .ref (b 6), .int (nI (ct y 1)), .int 0, .int 0, .int 0, .int 0])), ((b 6), .inl (g 0, 160, .inl fx))] H := by rw [e9]; exact hP.sub [0, 1] rfl
        have hD8 : va_D A [((b 0), .inr (15, [.int (cd true true true), .ref (b 1), .ref (b 2), .int 0, .ref (b 3), .ref (b 4), .ref (b 5), .null, .ref (b 6), .int (nI (ct y 1)), .int 0, .int 0, .int 0, .int 0])), ((b 6), .inl (g 0, 160, .inl fx))] := by rw [e9]; exact hD.sub [0, 1] (by decide) rfl
        exact HD74_1 fx _ _  hP8 hD8 hS _ (lv_sub hl [0, 2, 3] rfl)
      · refine lv_aload_n hx hb dX13_type_98 rfl (lv_at hl 2 rfl) ?_
        refine va_get (D := (dC, dI)) (ci := 15) (v := .ref (b 6)) (C := RX13) (T := TX13) (N := 14) hx hb hts hiX13 hown hK hP 0 rfl rfl 8 (by decide) hf38 (fun _ h9 => h9) rfl dX13_type_99 ?_
        refine lv_aload_n hx hb dX13_type_102 rfl (lv_at hl 2 rfl) ?_
        refine va_get (D := (dC, dI)) (ci := 15) (v := .int (nI (ct y 0))) (C := RX13) (T := TX13) (N := 14) hx hb hts hiX13 hown hK hP 0 rfl rfl 9 (by decide) hf218 (fun _ h9 => h9) rfl dX13_type_103 ?_
        refine lv_iload hx hb dX13_type_106 (lv_at hl 0 rfl) ?_
        refine va_iast hx hb hK hP hD hS 1 0 rfl rfl (vp_in_nI (Nat.lt_of_le_of_lt (ct_le y _) (by decide)) (by decide)) dX13_type_108 (fun H_90 L_91 hP hD hS => ?_)
        have hP : va_P (dC, dI) vwCl [((b 0), .inr (15, [.int (cd true true true), .ref (b 1), .ref (b 2), .int 0, .ref (b 3), .ref (b 4), .ref (b 5), .null, .ref (b 6), .int (nI (ct y 0)), .int 0, .int 0, .int 0, .int 0])), ((b 6), .inl (g 0, 160, .inl (upd fx (nI (ct y 0)).toNatClampNeg x_88)))] H_90 := hP
        have hD : va_D A [((b 0), .inr (15, [.int (cd true true true), .ref (b 1), .ref (b 2), .int 0, .ref (b 3), .ref (b 4), .ref (b 5), .null, .ref (b 6), .int (nI (ct y 0)), .int 0, .int 0, .int 0, .int 0])), ((b 6), .inl (g 0, 160, .inl (upd fx (nI (ct y 0)).toNatClampNeg x_88)))] := hD
        refine lv_aload_n hx hb dX13_type_109 rfl (lv_at hl 2 rfl) ?_
        refine lv_dup hx hb dX13_type_110 rfl ?_
        refine va_get (D := (dC, dI)) (ci := 15) (v := .int (nI (ct y 0))) (C := RX13) (T := TX13) (N := 14) hx hb hts hiX13 hown hK hP 0 rfl rfl 9 (by decide) hf218 (fun _ h9 => h9) rfl dX13_type_111 ?_
        refine lv_iconst (v := 1) hx hb dX13_type_114 (by decide) ?_
        refine lv_iadd hx hb dX13_type_115 ?_
        refine lv_topi (fun x_92 ex_92 => ?_)
        obtain rfl : x_92 = nI (ct y 0 + 1) := ex_92.trans (nI_1 _)
        refine va_put (D := (dC, dI)) (ci := 15) (v := .int (nI (ct y 0 + 1))) (ty := .int) (C := RX13) (T := TX13) (N := 14) hx hb hts hiX13 tyX13 tyX13_ok nmX13 hown hK hP hD hS 0 rfl rfl 9 (by decide) hf218 (fun _ h9 => h9) rfl (by decide +kernel) rfl rfl (Nat.le_of_ble_eq_true rfl) dX13_type_116 (fun H_93 L_94 hP hD hS => ?_)
        have hP : va_P (dC, dI) vwCl [((b 0), .inr (15, [.int (cd true true true), .ref (b 1), .ref (b 2), .int 0, .ref (b 3), .ref (b 4), .ref (b 5), .null, .ref (b 6), .int (nI (ct y 0 + 1)), .int 0, .int 0, .int 0, .int 0])), ((b 6), .inl (g 0, 160, .inl (upd fx (nI (ct y 0)).toNatClampNeg x_88)))] H_93 := hP
        have hD : va_D A [((b 0), .inr (15, [.int (cd true true true), .ref (b 1), .ref (b 2), .int 0, .ref (b 3), .ref (b 4), .ref (b 5), .null, .ref (b 6), .int (nI (ct y 0 + 1)), .int 0, .int 0, .int 0, .int 0])), ((b 6), .inl (g 0, 160, .inl (upd fx (nI (ct y 0)).toNatClampNeg x_88)))] := hD
        refine lv_iinc (v := 6) (lv' := [(4, .int 6), (5, .int x_88), (0, .ref (b 0)), (1, .long y)]) hx hb dX13_type_119 hl (k := 1) rfl (by decide) (by decide) rfl (fun ls hl => ?_)
        refine lv_goto (tgt := 74) hx hb dX13_type_122 (by decide) ?_
        have e9 : ct y 1 = ct y 0 + 1 := (show ct y 1 = ct y 0 + (if byt y 56 = 0 then 0 else 1) from rfl).trans (by rw [if_neg (by rw [← hby_88]; exact c_89)])
        have hP8 : va_P (dC, dI) vwCl [((b 0), .inr (15, [.int (cd true true true), .ref (b 1), .ref (b 2), .int 0, .ref (b 3), .ref (b 4), .ref (b 5), .null, .ref (b 6), .int (nI (ct y 1)), .int 0, .int 0, .int 0, .int 0])), ((b 6), .inl (g 0, 160, .inl (upd fx (nI (ct y 0)).toNatClampNeg x_88)))] H_93 := by rw [e9]; exact hP.sub [0, 1] rfl
        have hD8 : va_D A [((b 0), .inr (15, [.int (cd true true true), .ref (b 1), .ref (b 2), .int 0, .ref (b 3), .ref (b 4), .ref (b 5), .null, .ref (b 6), .int (nI (ct y 1)), .int 0, .int 0, .int 0, .int 0])), ((b 6), .inl (g 0, 160, .inl (upd fx (nI (ct y 0)).toNatClampNeg x_88)))] := by rw [e9]; exact hD.sub [0, 1] (by decide) rfl
        exact HD74_1 (upd fx (nI (ct y 0)).toNatClampNeg x_88) _ _  hP8 hD8 hS _ (lv_sub hl [0, 2, 3] rfl)
    exact HD74_0 (fun _ => 0) _ _  (hP.sub (ws' := [((b 0), .inr (15, [.int (cd true true true), .ref (b 1), .ref (b 2), .int 0, .ref (b 3), .ref (b 4), .ref (b 5), .null, .ref (b 6), .int (nI (ct y 0)), .int 0, .int 0, .int 0, .int 0])), ((b 6), .inl (g 0, 160, .inl (fun _ => 0)))]) [0, 1] rfl) (hD.sub (ws' := [((b 0), .inr (15, [.int (cd true true true), .ref (b 1), .ref (b 2), .int 0, .ref (b 3), .ref (b 4), .ref (b 5), .null, .ref (b 6), .int (nI (ct y 0)), .int 0, .int 0, .int 0, .int 0])), ((b 6), .inl (g 0, 160, .inl (fun _ => 0)))]) [0, 1] (by decide) rfl) hS _ (lv_sub hl [0, 1, 2] rfl)
  have HD5_7 : ∀ (j : Nat) (H : Heap) (locs : List Loc), j ≤ 7 → va_P (dC, dI) vwCl (modW b r1 r2 g th) H → va_S A s.heap H locs → ∀ (ls : Array Slot), lv_has ls 6 [(4, .int 7), (0, .ref (b 0)), (1, .long y), (3, .int (nI j))] → W p l e (headSpec wsX13_type ({ frames := 1, cells := 0, slots := 0, locals := 23 })).room s m ([.ref (b 0), .long y] : List Value).toArray below meth c H locs 0 0 Q (F0 m 5 ls []) := by
    intro j H locs hj hP hS ls hl
    refine lv_iload hx hb dX13_type_5 (lv_at hl 0 rfl) ?_
    refine lv_bipush (v := 8) hx hb dX13_type_7 (by decide) ?_
    refine lv_icmp_ge (tgt := 42) hx hb dX13_type_9 (by decide) (fun c_95 => absurd c_95 (by decide)) (fun c_95 => ?_)
    refine lv_iload_n hx hb dX13_type_12 rfl (lv_at hl 3 rfl) ?_
    refine lv_lload_n hx hb dX13_type_13 rfl (lv_at hl 2 rfl) ?_
    refine lv_bipush (v := 8) hx hb dX13_type_14 (by decide) ?_
    refine lv_iload hx hb dX13_type_16 (lv_at hl 0 rfl) ?_
    refine lv_imul hx hb dX13_type_18 ?_
    refine lv_topi (fun x_96 ex_96 => ?_)
    obtain rfl : x_96 = 56 := ex_96.trans (by decide)
    refine lv_lshr hx hb dX13_type_19 rfl ?_
    refine lv_topl (fun x_97 ex_97 => ?_)
    refine lv_ldc2 hx hb hown hk216 dX13_type_20 ?_
    refine lv_land hx hb dX13_type_23 ?_
    refine lv_topl (fun x_98 ex_98 => ?_)
    refine lv_lconst (v := 0) hx hb dX13_type_24 rfl ?_
    refine W.lcmp hx hb dX13_type_25 ?_
    refine lv_topi (fun x_99 ex_99 => ?_)
    refine lv_if_ne (tgt := 33) hx hb dX13_type_26 (by decide) (fun c_100 => ?_) (fun c_100 => ?_)
    · refine lv_iconst (v := 1) hx hb dX13_type_33 (by decide) ?_
      refine lv_iadd hx hb dX13_type_34 ?_
      refine lv_topi (fun x_101 ex_101 => ?_)
      obtain rfl : x_101 = nI (j + 1) := ex_101.trans (nI_1 _)
      refine lv_istore_n (lv' := [(3, .int (nI (j + 1))), (4, .int 7), (0, .ref (b 0)), (1, .long y)]) hx hb dX13_type_35 rfl hl (by decide) rfl (fun ls hl => ?_)
      refine lv_iinc (v := 8) (lv' := [(4, .int 8), (3, .int (nI (j + 1))), (0, .ref (b 0)), (1, .long y)]) hx hb dX13_type_36 hl (k := 1) rfl (by decide) (by decide) rfl (fun ls hl => ?_)
      refine lv_goto (tgt := 5) hx hb dX13_type_39 (by decide) ?_
      exact HD5_8 (j + 1) _ _ (by omega) hP hS _ (lv_sub hl [0, 2, 3, 1] rfl)
    · refine lv_iconst (v := 0) hx hb dX13_type_29 (by decide) ?_
      refine lv_goto (tgt := 34) hx hb dX13_type_30 (by decide) ?_
      refine lv_iadd hx hb dX13_type_34 ?_
      refine lv_topi (fun x_102 ex_102 => ?_)
      obtain rfl : x_102 = (nI j) := ex_102.trans (Int32.add_zero _)
      refine lv_istore_n (lv' := [(3, .int (nI j)), (4, .int 7), (0, .ref (b 0)), (1, .long y)]) hx hb dX13_type_35 rfl hl (by decide) rfl (fun ls hl => ?_)
      refine lv_iinc (v := 8) (lv' := [(4, .int 8), (3, .int (nI j)), (0, .ref (b 0)), (1, .long y)]) hx hb dX13_type_36 hl (k := 1) rfl (by decide) (by decide) rfl (fun ls hl => ?_)
      refine lv_goto (tgt := 5) hx hb dX13_type_39 (by decide) ?_
      exact HD5_8 j _ _ (by omega) hP hS _ (lv_sub hl [0, 2, 3, 1] rfl)
  have HD5_6 : ∀ (j : Nat) (H : Heap) (locs : List Loc), j ≤ 6 → va_P (dC, dI) vwCl (modW b r1 r2 g th) H → va_S A s.heap H locs → ∀ (ls : Array Slot), lv_has ls 6 [(4, .int 6), (0, .ref (b 0)), (1, .long y), (3, .int (nI j))] → W p l e (headSpec wsX13_type ({ frames := 1, cells := 0, slots := 0, locals := 23 })).room s m ([.ref (b 0), .long y] : List Value).toArray below meth c H locs 0 0 Q (F0 m 5 ls []) := by
    intro j H locs hj hP hS ls hl
    refine lv_iload hx hb dX13_type_5 (lv_at hl 0 rfl) ?_
    refine lv_bipush (v := 8) hx hb dX13_type_7 (by decide) ?_
    refine lv_icmp_ge (tgt := 42) hx hb dX13_type_9 (by decide) (fun c_103 => absurd c_103 (by decide)) (fun c_103 => ?_)
    refine lv_iload_n hx hb dX13_type_12 rfl (lv_at hl 3 rfl) ?_
    refine lv_lload_n hx hb dX13_type_13 rfl (lv_at hl 2 rfl) ?_
    refine lv_bipush (v := 8) hx hb dX13_type_14 (by decide) ?_
    refine lv_iload hx hb dX13_type_16 (lv_at hl 0 rfl) ?_
    refine lv_imul hx hb dX13_type_18 ?_
    refine lv_topi (fun x_104 ex_104 => ?_)
    obtain rfl : x_104 = 48 := ex_104.trans (by decide)
    refine lv_lshr hx hb dX13_type_19 rfl ?_
    refine lv_topl (fun x_105 ex_105 => ?_)
    refine lv_ldc2 hx hb hown hk216 dX13_type_20 ?_
    refine lv_land hx hb dX13_type_23 ?_
    refine lv_topl (fun x_106 ex_106 => ?_)
    refine lv_lconst (v := 0) hx hb dX13_type_24 rfl ?_
    refine W.lcmp hx hb dX13_type_25 ?_
    refine lv_topi (fun x_107 ex_107 => ?_)
    refine lv_if_ne (tgt := 33) hx hb dX13_type_26 (by decide) (fun c_108 => ?_) (fun c_108 => ?_)
    · refine lv_iconst (v := 1) hx hb dX13_type_33 (by decide) ?_
      refine lv_iadd hx hb dX13_type_34 ?_
      refine lv_topi (fun x_109 ex_109 => ?_)
      obtain rfl : x_109 = nI (j + 1) := ex_109.trans (nI_1 _)
      refine lv_istore_n (lv' := [(3, .int (nI (j + 1))), (4, .int 6), (0, .ref (b 0)), (1, .long y)]) hx hb dX13_type_35 rfl hl (by decide) rfl (fun ls hl => ?_)
      refine lv_iinc (v := 7) (lv' := [(4, .int 7), (3, .int (nI (j + 1))), (0, .ref (b 0)), (1, .long y)]) hx hb dX13_type_36 hl (k := 1) rfl (by decide) (by decide) rfl (fun ls hl => ?_)
      refine lv_goto (tgt := 5) hx hb dX13_type_39 (by decide) ?_
      exact HD5_7 (j + 1) _ _ (by omega) hP hS _ (lv_sub hl [0, 2, 3, 1] rfl)
    · refine lv_iconst (v := 0) hx hb dX13_type_29 (by decide) ?_
      refine lv_goto (tgt := 34) hx hb dX13_type_30 (by decide) ?_
      refine lv_iadd hx hb dX13_type_34 ?_
      refine lv_topi (fun x_110 ex_110 => ?_)
      obtain rfl : x_110 = (nI j) := ex_110.trans (Int32.add_zero _)
      refine lv_istore_n (lv' := [(3, .int (nI j)), (4, .int 6), (0, .ref (b 0)), (1, .long y)]) hx hb dX13_type_35 rfl hl (by decide) rfl (fun ls hl => ?_)
      refine lv_iinc (v := 7) (lv' := [(4, .int 7), (3, .int (nI j)), (0, .ref (b 0)), (1, .long y)]) hx hb dX13_type_36 hl (k := 1) rfl (by decide) (by decide) rfl (fun ls hl => ?_)
      refine lv_goto (tgt := 5) hx hb dX13_type_39 (by decide) ?_
      exact HD5_7 j _ _ (by omega) hP hS _ (lv_sub hl [0, 2, 3, 1] rfl)
  have HD5_5 : ∀ (j : Nat) (H : Heap) (locs : List Loc), j ≤ 5 → va_P (dC, dI) vwCl (modW b r1 r2 g th) H → va_S A s.heap H locs → ∀ (ls : Array Slot), lv_has ls 6 [(4, .int 5), (0, .ref (b 0)), (1, .long y), (3, .int (nI j))] → W p l e (headSpec wsX13_type ({ frames := 1, cells := 0, slots := 0, locals := 23 })).room s m ([.ref (b 0), .long y] : List Value).toArray below meth c H locs 0 0 Q (F0 m 5 ls []) := by
    intro j H locs hj hP hS ls hl
    refine lv_iload hx hb dX13_type_5 (lv_at hl 0 rfl) ?_
    refine lv_bipush (v := 8) hx hb dX13_type_7 (by decide) ?_
    refine lv_icmp_ge (tgt := 42) hx hb dX13_type_9 (by decide) (fun c_111 => absurd c_111 (by decide)) (fun c_111 => ?_)
    refine lv_iload_n hx hb dX13_type_12 rfl (lv_at hl 3 rfl) ?_
    refine lv_lload_n hx hb dX13_type_13 rfl (lv_at hl 2 rfl) ?_
    refine lv_bipush (v := 8) hx hb dX13_type_14 (by decide) ?_
    refine lv_iload hx hb dX13_type_16 (lv_at hl 0 rfl) ?_
    refine lv_imul hx hb dX13_type_18 ?_
    refine lv_topi (fun x_112 ex_112 => ?_)
    obtain rfl : x_112 = 40 := ex_112.trans (by decide)
    refine lv_lshr hx hb dX13_type_19 rfl ?_
    refine lv_topl (fun x_113 ex_113 => ?_)
    refine lv_ldc2 hx hb hown hk216 dX13_type_20 ?_
    refine lv_land hx hb dX13_type_23 ?_
    refine lv_topl (fun x_114 ex_114 => ?_)
    refine lv_lconst (v := 0) hx hb dX13_type_24 rfl ?_
    refine W.lcmp hx hb dX13_type_25 ?_
    refine lv_topi (fun x_115 ex_115 => ?_)
    refine lv_if_ne (tgt := 33) hx hb dX13_type_26 (by decide) (fun c_116 => ?_) (fun c_116 => ?_)
    · refine lv_iconst (v := 1) hx hb dX13_type_33 (by decide) ?_
      refine lv_iadd hx hb dX13_type_34 ?_
      refine lv_topi (fun x_117 ex_117 => ?_)
      obtain rfl : x_117 = nI (j + 1) := ex_117.trans (nI_1 _)
      refine lv_istore_n (lv' := [(3, .int (nI (j + 1))), (4, .int 5), (0, .ref (b 0)), (1, .long y)]) hx hb dX13_type_35 rfl hl (by decide) rfl (fun ls hl => ?_)
      refine lv_iinc (v := 6) (lv' := [(4, .int 6), (3, .int (nI (j + 1))), (0, .ref (b 0)), (1, .long y)]) hx hb dX13_type_36 hl (k := 1) rfl (by decide) (by decide) rfl (fun ls hl => ?_)
      refine lv_goto (tgt := 5) hx hb dX13_type_39 (by decide) ?_
      exact HD5_6 (j + 1) _ _ (by omega) hP hS _ (lv_sub hl [0, 2, 3, 1] rfl)
    · refine lv_iconst (v := 0) hx hb dX13_type_29 (by decide) ?_
      refine lv_goto (tgt := 34) hx hb dX13_type_30 (by decide) ?_
      refine lv_iadd hx hb dX13_type_34 ?_
      refine lv_topi (fun x_118 ex_118 => ?_)
      obtain rfl : x_118 = (nI j) := ex_118.trans (Int32.add_zero _)
      refine lv_istore_n (lv' := [(3, .int (nI j)), (4, .int 5), (0, .ref (b 0)), (1, .long y)]) hx hb dX13_type_35 rfl hl (by decide) rfl (fun ls hl => ?_)
      refine lv_iinc (v := 6) (lv' := [(4, .int 6), (3, .int (nI j)), (0, .ref (b 0)), (1, .long y)]) hx hb dX13_type_36 hl (k := 1) rfl (by decide) (by decide) rfl (fun ls hl => ?_)
      refine lv_goto (tgt := 5) hx hb dX13_type_39 (by decide) ?_
      exact HD5_6 j _ _ (by omega) hP hS _ (lv_sub hl [0, 2, 3, 1] rfl)
  have HD5_4 : ∀ (j : Nat) (H : Heap) (locs : List Loc), j ≤ 4 → va_P (dC, dI) vwCl (modW b r1 r2 g th) H → va_S A s.heap H locs → ∀ (ls : Array Slot), lv_has ls 6 [(4, .int 4), (0, .ref (b 0)), (1, .long y), (3, .int (nI j))] → W p l e (headSpec wsX13_type ({ frames := 1, cells := 0, slots := 0, locals := 23 })).room s m ([.ref (b 0), .long y] : List Value).toArray below meth c H locs 0 0 Q (F0 m 5 ls []) := by
    intro j H locs hj hP hS ls hl
    refine lv_iload hx hb dX13_type_5 (lv_at hl 0 rfl) ?_
    refine lv_bipush (v := 8) hx hb dX13_type_7 (by decide) ?_
    refine lv_icmp_ge (tgt := 42) hx hb dX13_type_9 (by decide) (fun c_119 => absurd c_119 (by decide)) (fun c_119 => ?_)
    refine lv_iload_n hx hb dX13_type_12 rfl (lv_at hl 3 rfl) ?_
    refine lv_lload_n hx hb dX13_type_13 rfl (lv_at hl 2 rfl) ?_
    refine lv_bipush (v := 8) hx hb dX13_type_14 (by decide) ?_
    refine lv_iload hx hb dX13_type_16 (lv_at hl 0 rfl) ?_
    refine lv_imul hx hb dX13_type_18 ?_
    refine lv_topi (fun x_120 ex_120 => ?_)
    obtain rfl : x_120 = 32 := ex_120.trans (by decide)
    refine lv_lshr hx hb dX13_type_19 rfl ?_
    refine lv_topl (fun x_121 ex_121 => ?_)
    refine lv_ldc2 hx hb hown hk216 dX13_type_20 ?_
    refine lv_land hx hb dX13_type_23 ?_
    refine lv_topl (fun x_122 ex_122 => ?_)
    refine lv_lconst (v := 0) hx hb dX13_type_24 rfl ?_
    refine W.lcmp hx hb dX13_type_25 ?_
    refine lv_topi (fun x_123 ex_123 => ?_)
    refine lv_if_ne (tgt := 33) hx hb dX13_type_26 (by decide) (fun c_124 => ?_) (fun c_124 => ?_)
    · refine lv_iconst (v := 1) hx hb dX13_type_33 (by decide) ?_
      refine lv_iadd hx hb dX13_type_34 ?_
      refine lv_topi (fun x_125 ex_125 => ?_)
      obtain rfl : x_125 = nI (j + 1) := ex_125.trans (nI_1 _)
      refine lv_istore_n (lv' := [(3, .int (nI (j + 1))), (4, .int 4), (0, .ref (b 0)), (1, .long y)]) hx hb dX13_type_35 rfl hl (by decide) rfl (fun ls hl => ?_)
      refine lv_iinc (v := 5) (lv' := [(4, .int 5), (3, .int (nI (j + 1))), (0, .ref (b 0)), (1, .long y)]) hx hb dX13_type_36 hl (k := 1) rfl (by decide) (by decide) rfl (fun ls hl => ?_)
      refine lv_goto (tgt := 5) hx hb dX13_type_39 (by decide) ?_
      exact HD5_5 (j + 1) _ _ (by omega) hP hS _ (lv_sub hl [0, 2, 3, 1] rfl)
    · refine lv_iconst (v := 0) hx hb dX13_type_29 (by decide) ?_
      refine lv_goto (tgt := 34) hx hb dX13_type_30 (by decide) ?_
      refine lv_iadd hx hb dX13_type_34 ?_
      refine lv_topi (fun x_126 ex_126 => ?_)
      obtain rfl : x_126 = (nI j) := ex_126.trans (Int32.add_zero _)
      refine lv_istore_n (lv' := [(3, .int (nI j)), (4, .int 4), (0, .ref (b 0)), (1, .long y)]) hx hb dX13_type_35 rfl hl (by decide) rfl (fun ls hl => ?_)
      refine lv_iinc (v := 5) (lv' := [(4, .int 5), (3, .int (nI j)), (0, .ref (b 0)), (1, .long y)]) hx hb dX13_type_36 hl (k := 1) rfl (by decide) (by decide) rfl (fun ls hl => ?_)
      refine lv_goto (tgt := 5) hx hb dX13_type_39 (by decide) ?_
      exact HD5_5 j _ _ (by omega) hP hS _ (lv_sub hl [0, 2, 3, 1] rfl)
  have HD5_3 : ∀ (j : Nat) (H : Heap) (locs : List Loc), j ≤ 3 → va_P (dC, dI) vwCl (modW b r1 r2 g th) H → va_S A s.heap H locs → ∀ (ls : Array Slot), lv_has ls 6 [(4, .int 3), (0, .ref (b 0)), (1, .long y), (3, .int (nI j))] → W p l e (headSpec wsX13_type ({ frames := 1, cells := 0, slots := 0, locals := 23 })).room s m ([.ref (b 0), .long y] : List Value).toArray below meth c H locs 0 0 Q (F0 m 5 ls []) := by
    intro j H locs hj hP hS ls hl
    refine lv_iload hx hb dX13_type_5 (lv_at hl 0 rfl) ?_
    refine lv_bipush (v := 8) hx hb dX13_type_7 (by decide) ?_
    refine lv_icmp_ge (tgt := 42) hx hb dX13_type_9 (by decide) (fun c_127 => absurd c_127 (by decide)) (fun c_127 => ?_)
    refine lv_iload_n hx hb dX13_type_12 rfl (lv_at hl 3 rfl) ?_
    refine lv_lload_n hx hb dX13_type_13 rfl (lv_at hl 2 rfl) ?_
    refine lv_bipush (v := 8) hx hb dX13_type_14 (by decide) ?_
    refine lv_iload hx hb dX13_type_16 (lv_at hl 0 rfl) ?_
    refine lv_imul hx hb dX13_type_18 ?_
    refine lv_topi (fun x_128 ex_128 => ?_)
    obtain rfl : x_128 = 24 := ex_128.trans (by decide)
    refine lv_lshr hx hb dX13_type_19 rfl ?_
    refine lv_topl (fun x_129 ex_129 => ?_)
    refine lv_ldc2 hx hb hown hk216 dX13_type_20 ?_
    refine lv_land hx hb dX13_type_23 ?_
    refine lv_topl (fun x_130 ex_130 => ?_)
    refine lv_lconst (v := 0) hx hb dX13_type_24 rfl ?_
    refine W.lcmp hx hb dX13_type_25 ?_
    refine lv_topi (fun x_131 ex_131 => ?_)
    refine lv_if_ne (tgt := 33) hx hb dX13_type_26 (by decide) (fun c_132 => ?_) (fun c_132 => ?_)
    · refine lv_iconst (v := 1) hx hb dX13_type_33 (by decide) ?_
      refine lv_iadd hx hb dX13_type_34 ?_
      refine lv_topi (fun x_133 ex_133 => ?_)
      obtain rfl : x_133 = nI (j + 1) := ex_133.trans (nI_1 _)
      refine lv_istore_n (lv' := [(3, .int (nI (j + 1))), (4, .int 3), (0, .ref (b 0)), (1, .long y)]) hx hb dX13_type_35 rfl hl (by decide) rfl (fun ls hl => ?_)
      refine lv_iinc (v := 4) (lv' := [(4, .int 4), (3, .int (nI (j + 1))), (0, .ref (b 0)), (1, .long y)]) hx hb dX13_type_36 hl (k := 1) rfl (by decide) (by decide) rfl (fun ls hl => ?_)
      refine lv_goto (tgt := 5) hx hb dX13_type_39 (by decide) ?_
      exact HD5_4 (j + 1) _ _ (by omega) hP hS _ (lv_sub hl [0, 2, 3, 1] rfl)
    · refine lv_iconst (v := 0) hx hb dX13_type_29 (by decide) ?_
      refine lv_goto (tgt := 34) hx hb dX13_type_30 (by decide) ?_
      refine lv_iadd hx hb dX13_type_34 ?_
      refine lv_topi (fun x_134 ex_134 => ?_)
      obtain rfl : x_134 = (nI j) := ex_134.trans (Int32.add_zero _)
      refine lv_istore_n (lv' := [(3, .int (nI j)), (4, .int 3), (0, .ref (b 0)), (1, .long y)]) hx hb dX13_type_35 rfl hl (by decide) rfl (fun ls hl => ?_)
      refine lv_iinc (v := 4) (lv' := [(4, .int 4), (3, .int (nI j)), (0, .ref (b 0)), (1, .long y)]) hx hb dX13_type_36 hl (k := 1) rfl (by decide) (by decide) rfl (fun ls hl => ?_)
      refine lv_goto (tgt := 5) hx hb dX13_type_39 (by decide) ?_
      exact HD5_4 j _ _ (by omega) hP hS _ (lv_sub hl [0, 2, 3, 1] rfl)
  have HD5_2 : ∀ (j : Nat) (H : Heap) (locs : List Loc), j ≤ 2 → va_P (dC, dI) vwCl (modW b r1 r2 g th) H → va_S A s.heap H locs → ∀ (ls : Array Slot), lv_has ls 6 [(4, .int 2), (0, .ref (b 0)), (1, .long y), (3, .int (nI j))] → W p l e (headSpec wsX13_type ({ frames := 1, cells := 0, slots := 0, locals := 23 })).room s m ([.ref (b 0), .long y] : List Value).toArray below meth c H locs 0 0 Q (F0 m 5 ls []) := by
    intro j H locs hj hP hS ls hl
    refine lv_iload hx hb dX13_type_5 (lv_at hl 0 rfl) ?_
    refine lv_bipush (v := 8) hx hb dX13_type_7 (by decide) ?_
    refine lv_icmp_ge (tgt := 42) hx hb dX13_type_9 (by decide) (fun c_135 => absurd c_135 (by decide)) (fun c_135 => ?_)
    refine lv_iload_n hx hb dX13_type_12 rfl (lv_at hl 3 rfl) ?_
    refine lv_lload_n hx hb dX13_type_13 rfl (lv_at hl 2 rfl) ?_
    refine lv_bipush (v := 8) hx hb dX13_type_14 (by decide) ?_
    refine lv_iload hx hb dX13_type_16 (lv_at hl 0 rfl) ?_
    refine lv_imul hx hb dX13_type_18 ?_
    refine lv_topi (fun x_136 ex_136 => ?_)
    obtain rfl : x_136 = 16 := ex_136.trans (by decide)
    refine lv_lshr hx hb dX13_type_19 rfl ?_
    refine lv_topl (fun x_137 ex_137 => ?_)
    refine lv_ldc2 hx hb hown hk216 dX13_type_20 ?_
    refine lv_land hx hb dX13_type_23 ?_
    refine lv_topl (fun x_138 ex_138 => ?_)
    refine lv_lconst (v := 0) hx hb dX13_type_24 rfl ?_
    refine W.lcmp hx hb dX13_type_25 ?_
    refine lv_topi (fun x_139 ex_139 => ?_)
    refine lv_if_ne (tgt := 33) hx hb dX13_type_26 (by decide) (fun c_140 => ?_) (fun c_140 => ?_)
    · refine lv_iconst (v := 1) hx hb dX13_type_33 (by decide) ?_
      refine lv_iadd hx hb dX13_type_34 ?_
      refine lv_topi (fun x_141 ex_141 => ?_)
      obtain rfl : x_141 = nI (j + 1) := ex_141.trans (nI_1 _)
      refine lv_istore_n (lv' := [(3, .int (nI (j + 1))), (4, .int 2), (0, .ref (b 0)), (1, .long y)]) hx hb dX13_type_35 rfl hl (by decide) rfl (fun ls hl => ?_)
      refine lv_iinc (v := 3) (lv' := [(4, .int 3), (3, .int (nI (j + 1))), (0, .ref (b 0)), (1, .long y)]) hx hb dX13_type_36 hl (k := 1) rfl (by decide) (by decide) rfl (fun ls hl => ?_)
      refine lv_goto (tgt := 5) hx hb dX13_type_39 (by decide) ?_
      exact HD5_3 (j + 1) _ _ (by omega) hP hS _ (lv_sub hl [0, 2, 3, 1] rfl)
    · refine lv_iconst (v := 0) hx hb dX13_type_29 (by decide) ?_
      refine lv_goto (tgt := 34) hx hb dX13_type_30 (by decide) ?_
      refine lv_iadd hx hb dX13_type_34 ?_
      refine lv_topi (fun x_142 ex_142 => ?_)
      obtain rfl : x_142 = (nI j) := ex_142.trans (Int32.add_zero _)
      refine lv_istore_n (lv' := [(3, .int (nI j)), (4, .int 2), (0, .ref (b 0)), (1, .long y)]) hx hb dX13_type_35 rfl hl (by decide) rfl (fun ls hl => ?_)
      refine lv_iinc (v := 3) (lv' := [(4, .int 3), (3, .int (nI j)), (0, .ref (b 0)), (1, .long y)]) hx hb dX13_type_36 hl (k := 1) rfl (by decide) (by decide) rfl (fun ls hl => ?_)
      refine lv_goto (tgt := 5) hx hb dX13_type_39 (by decide) ?_
      exact HD5_3 j _ _ (by omega) hP hS _ (lv_sub hl [0, 2, 3, 1] rfl)
  have HD5_1 : ∀ (j : Nat) (H : Heap) (locs : List Loc), j ≤ 1 → va_P (dC, dI) vwCl (modW b r1 r2 g th) H → va_S A s.heap H locs → ∀ (ls : Array Slot), lv_has ls 6 [(4, .int 1), (0, .ref (b 0)), (1, .long y), (3, .int (nI j))] → W p l e (headSpec wsX13_type ({ frames := 1, cells := 0, slots := 0, locals := 23 })).room s m ([.ref (b 0), .long y] : List Value).toArray below meth c H locs 0 0 Q (F0 m 5 ls []) := by
    intro j H locs hj hP hS ls hl
    refine lv_iload hx hb dX13_type_5 (lv_at hl 0 rfl) ?_
    refine lv_bipush (v := 8) hx hb dX13_type_7 (by decide) ?_
    refine lv_icmp_ge (tgt := 42) hx hb dX13_type_9 (by decide) (fun c_143 => absurd c_143 (by decide)) (fun c_143 => ?_)
    refine lv_iload_n hx hb dX13_type_12 rfl (lv_at hl 3 rfl) ?_
    refine lv_lload_n hx hb dX13_type_13 rfl (lv_at hl 2 rfl) ?_
    refine lv_bipush (v := 8) hx hb dX13_type_14 (by decide) ?_
    refine lv_iload hx hb dX13_type_16 (lv_at hl 0 rfl) ?_
    refine lv_imul hx hb dX13_type_18 ?_
    refine lv_topi (fun x_144 ex_144 => ?_)
    obtain rfl : x_144 = 8 := ex_144.trans (by decide)
    refine lv_lshr hx hb dX13_type_19 rfl ?_
    refine lv_topl (fun x_145 ex_145 => ?_)
    refine lv_ldc2 hx hb hown hk216 dX13_type_20 ?_
    refine lv_land hx hb dX13_type_23 ?_
    refine lv_topl (fun x_146 ex_146 => ?_)
    refine lv_lconst (v := 0) hx hb dX13_type_24 rfl ?_
    refine W.lcmp hx hb dX13_type_25 ?_
    refine lv_topi (fun x_147 ex_147 => ?_)
    refine lv_if_ne (tgt := 33) hx hb dX13_type_26 (by decide) (fun c_148 => ?_) (fun c_148 => ?_)
    · refine lv_iconst (v := 1) hx hb dX13_type_33 (by decide) ?_
      refine lv_iadd hx hb dX13_type_34 ?_
      refine lv_topi (fun x_149 ex_149 => ?_)
      obtain rfl : x_149 = nI (j + 1) := ex_149.trans (nI_1 _)
      refine lv_istore_n (lv' := [(3, .int (nI (j + 1))), (4, .int 1), (0, .ref (b 0)), (1, .long y)]) hx hb dX13_type_35 rfl hl (by decide) rfl (fun ls hl => ?_)
      refine lv_iinc (v := 2) (lv' := [(4, .int 2), (3, .int (nI (j + 1))), (0, .ref (b 0)), (1, .long y)]) hx hb dX13_type_36 hl (k := 1) rfl (by decide) (by decide) rfl (fun ls hl => ?_)
      refine lv_goto (tgt := 5) hx hb dX13_type_39 (by decide) ?_
      exact HD5_2 (j + 1) _ _ (by omega) hP hS _ (lv_sub hl [0, 2, 3, 1] rfl)
    · refine lv_iconst (v := 0) hx hb dX13_type_29 (by decide) ?_
      refine lv_goto (tgt := 34) hx hb dX13_type_30 (by decide) ?_
      refine lv_iadd hx hb dX13_type_34 ?_
      refine lv_topi (fun x_150 ex_150 => ?_)
      obtain rfl : x_150 = (nI j) := ex_150.trans (Int32.add_zero _)
      refine lv_istore_n (lv' := [(3, .int (nI j)), (4, .int 1), (0, .ref (b 0)), (1, .long y)]) hx hb dX13_type_35 rfl hl (by decide) rfl (fun ls hl => ?_)
      refine lv_iinc (v := 2) (lv' := [(4, .int 2), (3, .int (nI j)), (0, .ref (b 0)), (1, .long y)]) hx hb dX13_type_36 hl (k := 1) rfl (by decide) (by decide) rfl (fun ls hl => ?_)
      refine lv_goto (tgt := 5) hx hb dX13_type_39 (by decide) ?_
      exact HD5_2 j _ _ (by omega) hP hS _ (lv_sub hl [0, 2, 3, 1] rfl)
  have HD5_0 : ∀ (j : Nat) (H : Heap) (locs : List Loc), j ≤ 0 → va_P (dC, dI) vwCl (modW b r1 r2 g th) H → va_S A s.heap H locs → ∀ (ls : Array Slot), lv_has ls 6 [(4, .int 0), (0, .ref (b 0)), (1, .long y), (3, .int (nI j))] → W p l e (headSpec wsX13_type ({ frames := 1, cells := 0, slots := 0, locals := 23 })).room s m ([.ref (b 0), .long y] : List Value).toArray below meth c H locs 0 0 Q (F0 m 5 ls []) := by
    intro j H locs hj hP hS ls hl
    refine lv_iload hx hb dX13_type_5 (lv_at hl 0 rfl) ?_
    refine lv_bipush (v := 8) hx hb dX13_type_7 (by decide) ?_
    refine lv_icmp_ge (tgt := 42) hx hb dX13_type_9 (by decide) (fun c_151 => absurd c_151 (by decide)) (fun c_151 => ?_)
    refine lv_iload_n hx hb dX13_type_12 rfl (lv_at hl 3 rfl) ?_
    refine lv_lload_n hx hb dX13_type_13 rfl (lv_at hl 2 rfl) ?_
    refine lv_bipush (v := 8) hx hb dX13_type_14 (by decide) ?_
    refine lv_iload hx hb dX13_type_16 (lv_at hl 0 rfl) ?_
    refine lv_imul hx hb dX13_type_18 ?_
    refine lv_topi (fun x_152 ex_152 => ?_)
    obtain rfl : x_152 = 0 := ex_152.trans (by decide)
    refine lv_lshr hx hb dX13_type_19 rfl ?_
    refine lv_topl (fun x_153 ex_153 => ?_)
    refine lv_ldc2 hx hb hown hk216 dX13_type_20 ?_
    refine lv_land hx hb dX13_type_23 ?_
    refine lv_topl (fun x_154 ex_154 => ?_)
    refine lv_lconst (v := 0) hx hb dX13_type_24 rfl ?_
    refine W.lcmp hx hb dX13_type_25 ?_
    refine lv_topi (fun x_155 ex_155 => ?_)
    refine lv_if_ne (tgt := 33) hx hb dX13_type_26 (by decide) (fun c_156 => ?_) (fun c_156 => ?_)
    · refine lv_iconst (v := 1) hx hb dX13_type_33 (by decide) ?_
      refine lv_iadd hx hb dX13_type_34 ?_
      refine lv_topi (fun x_157 ex_157 => ?_)
      obtain rfl : x_157 = nI (j + 1) := ex_157.trans (nI_1 _)
      refine lv_istore_n (lv' := [(3, .int (nI (j + 1))), (4, .int 0), (0, .ref (b 0)), (1, .long y)]) hx hb dX13_type_35 rfl hl (by decide) rfl (fun ls hl => ?_)
      refine lv_iinc (v := 1) (lv' := [(4, .int 1), (3, .int (nI (j + 1))), (0, .ref (b 0)), (1, .long y)]) hx hb dX13_type_36 hl (k := 1) rfl (by decide) (by decide) rfl (fun ls hl => ?_)
      refine lv_goto (tgt := 5) hx hb dX13_type_39 (by decide) ?_
      exact HD5_1 (j + 1) _ _ (by omega) hP hS _ (lv_sub hl [0, 2, 3, 1] rfl)
    · refine lv_iconst (v := 0) hx hb dX13_type_29 (by decide) ?_
      refine lv_goto (tgt := 34) hx hb dX13_type_30 (by decide) ?_
      refine lv_iadd hx hb dX13_type_34 ?_
      refine lv_topi (fun x_158 ex_158 => ?_)
      obtain rfl : x_158 = (nI j) := ex_158.trans (Int32.add_zero _)
      refine lv_istore_n (lv' := [(3, .int (nI j)), (4, .int 0), (0, .ref (b 0)), (1, .long y)]) hx hb dX13_type_35 rfl hl (by decide) rfl (fun ls hl => ?_)
      refine lv_iinc (v := 1) (lv' := [(4, .int 1), (3, .int (nI j)), (0, .ref (b 0)), (1, .long y)]) hx hb dX13_type_36 hl (k := 1) rfl (by decide) (by decide) rfl (fun ls hl => ?_)
      refine lv_goto (tgt := 5) hx hb dX13_type_39 (by decide) ?_
      exact HD5_1 j _ _ (by omega) hP hS _ (lv_sub hl [0, 2, 3, 1] rfl)
  exact HD5_0 0 _ _ (by omega) hP hS _ (lv_sub hl [0, 2, 3, 1] rfl)
