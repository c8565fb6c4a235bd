theorem dX13_put_0 : decode cX13_put 0 = .ok (.iload_n 1, 1) := by decide +kernel
set_option maxRecDepth 20000 in
theorem ggX13_put_X13_isTape : GoodIn wsX13_put wsX13_isTape := goodIn_r _ [5, 6, 7, 4, 8] (by decide +kernel) (by decide +kernel)
set_option maxRecDepth 20000 in
theorem gX13_put_X13_isTape : GoodIn wsX13_put (va_wsS RX13 44 yX13_isTape wsX13_isTape) := goodIn_app (goodIn_of _ (by decide +kernel)) ggX13_put_X13_isTape
theorem dX13_put_1 : decode cX13_put 1 = .ok (.invokestatic 44, 3) := by decide +kernel
theorem dX13_put_4 : decode cX13_put 4 = .ok (.istore 4, 2) := by decide +kernel
theorem dX13_put_6 : decode cX13_put 6 = .ok (.aload_n 0, 1) := by decide +kernel
theorem dX13_put_7 : decode cX13_put 7 = .ok (.iload 4, 2) := by decide +kernel
theorem dX13_put_9 : decode cX13_put 9 = .ok (.iload_n 2, 1) := by decide +kernel
set_option maxRecDepth 20000 in
theorem ggX13_put_X13_isKey : GoodIn wsX13_put wsX13_isKey := goodIn_r _ [11, 6, 7, 4, 8] (by decide +kernel) (by decide +kernel)
set_option maxRecDepth 20000 in
theorem gX13_put_X13_isKey : GoodIn wsX13_put (va_wsS RX13 48 yX13_isKey wsX13_isKey) := goodIn_app (goodIn_of _ (by decide +kernel)) ggX13_put_X13_isKey
theorem dX13_put_10 : decode cX13_put 10 = .ok (.invokestatic 48, 3) := by decide +kernel
theorem dX13_put_13 : decode cX13_put 13 = .ok (.ifCond .eq 18, 3) := by decide +kernel
theorem dX13_put_31 : decode cX13_put 31 = .ok (.iconst 0, 1) := by decide +kernel
theorem dX13_put_32 : decode cX13_put 32 = .ok (.iload 4, 2) := by decide +kernel
theorem dX13_put_34 : decode cX13_put 34 = .ok (.ifCond .eq 16, 3) := by decide +kernel
theorem dX13_put_50 : decode cX13_put 50 = .ok (.iconst 0, 1) := by decide +kernel
set_option maxRecDepth 20000 in
theorem ggX13_put_X13_passes : GoodIn wsX13_put wsX13_passes := goodIn_r _ [20, 21, 29, 30, 31, 32, 33, 34, 35, 36, 37, 38, 39, 40, 41, 42] (by decide +kernel) (by decide +kernel)
set_option maxRecDepth 20000 in
theorem gX13_put_X13_passes : GoodIn wsX13_put (wsV RX13 55 RX13 yX13_passes wsX13_passes) := goodIn_app (goodIn_of _ (by decide +kernel)) ggX13_put_X13_passes
theorem dX13_put_51 : decode cX13_put 51 = .ok (.invokevirtual 55, 3) := by decide +kernel
theorem dX13_put_54 : decode cX13_put 54 = .ok (.ifCond .ne 5, 3) := by decide +kernel
theorem dX13_put_57 : decode cX13_put 57 = .ok (.iconst 0, 1) := by decide +kernel
theorem dX13_put_58 : decode cX13_put 58 = .ok (.ireturn, 1) := by decide +kernel
theorem dX13_put_37 : decode cX13_put 37 = .ok (.aload_n 0, 1) := by decide +kernel
theorem dX13_put_38 : decode cX13_put 38 = .ok (.iload_n 1, 1) := by decide +kernel
theorem dX13_put_39 : decode cX13_put 39 = .ok (.iconst 1, 1) := by decide +kernel
set_option maxRecDepth 20000 in
theorem ggX13_put_X13_haveRoom : GoodIn wsX13_put wsX13_haveRoom := goodIn_r _ [15, 1, 16, 29, 30, 31, 32, 33, 34, 35, 36, 37, 38, 39, 40, 41, 42] (by decide +kernel) (by decide +kernel)
set_option maxRecDepth 20000 in
theorem gX13_put_X13_haveRoom : GoodIn wsX13_put (wsV RX13 51 RX13 yX13_haveRoom wsX13_haveRoom) := goodIn_app (goodIn_of _ (by decide +kernel)) ggX13_put_X13_haveRoom
theorem dX13_put_40 : decode cX13_put 40 = .ok (.invokevirtual 51, 3) := by decide +kernel
theorem dX13_put_43 : decode cX13_put 43 = .ok (.ifCond .eq 7, 3) := by decide +kernel
theorem dX13_put_46 : decode cX13_put 46 = .ok (.iconst 1, 1) := by decide +kernel
theorem dX13_put_47 : decode cX13_put 47 = .ok (.goto 4, 3) := by decide +kernel
theorem dX13_put_16 : decode cX13_put 16 = .ok (.iload_n 3, 1) := by decide +kernel
theorem dX13_put_17 : decode cX13_put 17 = .ok (.iconst 0, 1) := by decide +kernel
theorem dX13_put_18 : decode cX13_put 18 = .ok (.sipush 9999, 3) := by decide +kernel
set_option maxRecDepth 20000 in
theorem ggX13_put_X13_in : GoodIn wsX13_put wsX13_in := goodIn_r _ [8] (by decide +kernel) (by decide +kernel)
set_option maxRecDepth 20000 in
theorem gX13_put_X13_in : GoodIn wsX13_put (va_wsS RX13 7 yX13_in wsX13_in) := goodIn_app (goodIn_of _ (by decide +kernel)) ggX13_put_X13_in
theorem dX13_put_21 : decode cX13_put 21 = .ok (.invokestatic 7, 3) := by decide +kernel
theorem dX13_put_24 : decode cX13_put 24 = .ok (.ifCond .eq 7, 3) := by decide +kernel
theorem dX13_put_27 : decode cX13_put 27 = .ok (.iconst 1, 1) := by decide +kernel
theorem dX13_put_28 : decode cX13_put 28 = .ok (.goto 4, 3) := by decide +kernel
theorem dX13_put_59 : decode cX13_put 59 = .ok (.aload_n 0, 1) := by decide +kernel
theorem dX13_put_60 : decode cX13_put 60 = .ok (.iload_n 1, 1) := by decide +kernel
theorem dX13_put_61 : decode cX13_put 61 = .ok (.iload_n 2, 1) := by decide +kernel
theorem dX13_put_62 : decode cX13_put 62 = .ok (.iload_n 3, 1) := by decide +kernel
set_option maxRecDepth 20000 in
theorem ggX13_put_X13_comes : GoodIn wsX13_put wsX13_comes := goodIn_r _ [25, 26, 1, 27, 16, 28, 29, 30, 31, 32, 33, 34, 35, 36, 37, 38, 39, 40, 41, 42] (by decide +kernel) (by decide +kernel)
set_option maxRecDepth 20000 in
theorem gX13_put_X13_comes : GoodIn wsX13_put (wsV RX13 59 RX13 yX13_comes wsX13_comes) := goodIn_app (goodIn_of _ (by decide +kernel)) ggX13_put_X13_comes
theorem dX13_put_63 : decode cX13_put 63 = .ok (.invokevirtual 59, 3) := by decide +kernel
theorem dX13_put_66 : decode cX13_put 66 = .ok (.aload_n 0, 1) := by decide +kernel
theorem dX13_put_67 : decode cX13_put 67 = .ok (.getfield 41, 3) := by decide +kernel
theorem dX13_put_70 : decode cX13_put 70 = .ok (.iconst 1, 1) := by decide +kernel
theorem dX13_put_71 : decode cX13_put 71 = .ok (.isub, 1) := by decide +kernel
theorem dX13_put_72 : decode cX13_put 72 = .ok (.ireturn, 1) := by decide +kernel
set_option maxHeartbeats 4000000 in
set_option maxRecDepth 100000 in
theorem c_X13_put (l : Launch) (dC : Nat → ClassId) (dI : Nat → Nat → Nat) (g : Nat → ClassId) (b : Nat → Nat) (r1 : Nat → Nat) (r2 : Nat → Nat) (x : Int32) (ky : Int32) (mk : Int32) (th : Int32) (sz : Nat) : Met l yX13_put wsX13_put ({ frames := 2, cells := 1, slots := 101, locals := 42 }) (va_Pc [.ref (b 0), .int x, .int ky, .int mk] (PG (dC, dI) g (modW b r1 r2 g th) sz)) (va_Qi (fun (r : Int32) (_ : Unit) => (cd (TOKb x) (rngb ky (-999) 999 && rngb mk 0 9999) true) = 0 → r = 0) (fun (_ : Unit) t => ∃ fs : List Value, va_P (dC, dI) vwCl [(b 0, .inr (15, .int (cd (TOKb x) (rngb ky (-999) 999 && rngb mk 0 9999) true) :: fs))] t.heap) (va_A (modW b r1 r2 g th) sz)) 1 101 (va_A (modW b r1 r2 g th) sz) := by
  refine Met.ofW (cc := cX13_put) (maxL := 5) (ret := (some .int)) (by decide) rfl ?_
  intro p e s m args below meth c s₁ B hml hv
  obtain ⟨rfl, hsz, hP, hK, hD0, hG⟩ := hv
  have hx := B.exec
  have hb := B.bytes
  have hr := B.returns
  have hts := atoms_spec (ws := wsX13_put) B.pre
  have hown : s.vm.findClass RX13 = some m.cls := findClass_of_methodNamed B.named
  have hlocks := B.notSynchronized
  subst hsz
  have hD := hD0.self (sz := s.heap.size)
  generalize hAe : va_A (modW b r1 r2 g th) s.heap.size = A at hD hG ⊢
  have hA : ∀ q : Nat, s.heap.size ≤ q → A q := fun q h => by rw [← hAe]; exact Or.inr h
  have hS : va_S A s.heap s.heap [] := va_S.rf
  have hl := lv_entry ([.ref (b 0), .int x, .int ky, .int mk]) (n := 5) (Nat.le_of_ble_eq_true rfl)
  rw [lg_entry_eq]
  generalize (lg_sl ([.ref (b 0), .int x, .int ky, .int mk]) ++ List.replicate (5 - (lg_sl ([.ref (b 0), .int x, .int ky, .int mk])).length) Slot.unset).toArray = ls at hl ⊢
  have hl : lv_has ls 5 [(0, .ref (b 0)), (1, .int x), (2, .int ky), (3, .int mk)] := hl
  have hf41 := hts (Cond.fieldLink RX13 41 "RunmergeOfficeModel" "records" "I") (by decide +kernel)
  have hiX13 : ∀ w ∈ u_ws RX13 TX13 14, w ∈ wsX13_put := by decide +kernel
  refine lv_iload_n hx hb dX13_put_0 rfl (lv_at hl 1 rfl) ?_
  refine va_calli (va_runS (As := [.int x]) (rest := []) ⟨hx, hb, hml, hown, hts⟩ (c_X13_isTape l dC dI g (modW b r1 r2 g th) x   s.heap.size) (va_cwS 1 hts gX13_put_X13_isTape rfl rfl rfl (by decide +kernel) ⟨Nat.le_of_ble_eq_true rfl, Nat.le_of_ble_eq_true rfl⟩) ⟨PG_blind, PG_call hK hG hS hP hD (A_all hD hA hS.1)⟩ rfl rfl hl.1 rfl (lv_room (Nat.le_of_ble_eq_true rfl)) dX13_put_1 ⟨Nat.le_of_ble_eq_true rfl, Nat.le_of_ble_eq_true rfl⟩) hS (fun q _ h => (A_all hD hA hS.1) q h) (A_all hD hA hS.1) (fun r_1 u_1 t_1 H_1 L_1 ht_1 hvm_1 hw_1 hB_1 hz_1 hk_1 hS => ?_)
  replace hB_1 := (show va_P (dC, dI) vwCl (modW b r1 r2 g th) t_1.heap from hB_1)
  rw [ht_1] at hB_1
  have hP := hB_1
  obtain rfl : r_1 = b2i (TOKb x) := hw_1
  refine lv_istore (lv' := [(4, .int (b2i (TOKb x))), (0, .ref (b 0)), (1, .int x), (2, .int ky), (3, .int mk)]) hx hb dX13_put_4 hl (by decide) rfl (fun ls hl => ?_)
  refine lv_aload_n hx hb dX13_put_6 rfl (lv_at hl 1 rfl) ?_
  refine lv_iload hx hb dX13_put_7 (lv_at hl 0 rfl) ?_
  refine lv_iload_n hx hb dX13_put_9 rfl (lv_at hl 3 rfl) ?_
  refine va_calli (va_runS (As := [.int ky]) (rest := [.int (b2i (TOKb x)), .ref (b 0)]) ⟨hx, hb, hml, hown, hts⟩ (c_X13_isKey l dC dI g (modW b r1 r2 g th) ky   H_1.size) (va_cwS 1 hts gX13_put_X13_isKey rfl rfl rfl (by decide +kernel) ⟨Nat.le_of_ble_eq_true rfl, Nat.le_of_ble_eq_true rfl⟩) ⟨PG_blind, PG_call hK hG hS hP hD (A_all hD hA hS.1)⟩ rfl rfl hl.1 rfl (lv_room (Nat.le_of_ble_eq_true rfl)) dX13_put_10 ⟨Nat.le_of_ble_eq_true rfl, Nat.le_of_ble_eq_true rfl⟩) hS (fun q _ h => (A_all hD hA hS.1) q h) (A_all hD hA hS.1) (fun r_2 u_2 t_2 H_2 L_2 ht_2 hvm_2 hw_2 hB_2 hz_2 hk_2 hS => ?_)
  replace hB_2 := (show va_P (dC, dI) vwCl (modW b r1 r2 g th) t_2.heap from hB_2)
  rw [ht_2] at hB_2
  have hP := hB_2
  obtain rfl : r_2 = b2i (rngb ky (-999) 999) := hw_2
  refine lv_if_eq (tgt := 31) hx hb dX13_put_13 (by decide) (fun c_3 => ?_) (fun c_3 => ?_)
  · have hB_4 : (rngb ky (-999) 999) = false := b2i_0 c_3
    refine lv_iconst (v := 0) hx hb dX13_put_31 (by decide) ?_
    refine lv_iload hx hb dX13_put_32 (lv_at hl 0 rfl) ?_
    refine lv_if_eq (tgt := 50) hx hb dX13_put_34 (by decide) (fun c_5 => ?_) (fun c_5 => ?_)
    · have hB_6 : (TOKb x) = false := b2i_0 c_5
      refine lv_iconst (v := 0) hx hb dX13_put_50 (by decide) ?_
      refine va_calli (va_runV (As := [.int (b2i (TOKb x)), .int 0, .int 0]) (rest := []) ⟨hx, hb, hml, hown, hts⟩ (c_X13_passes l dC dI g b r1 r2 th (TOKb x) false false  H_2.size) (cwV 3 hts gX13_put_X13_passes rfl rfl rfl (by decide +kernel) ⟨Nat.le_of_ble_eq_true rfl, Nat.le_of_ble_eq_true rfl⟩) ⟨PG_blind, va_recv hK hP (ci := 15) (q0 := 0) rfl (m_0 b r1 r2 g th), PG_call hK hG hS hP hD (A_all hD hA hS.1)⟩ rfl rfl hl.1 rfl (lv_room (Nat.le_of_ble_eq_true rfl)) dX13_put_51 ⟨Nat.le_of_ble_eq_true rfl, Nat.le_of_ble_eq_true rfl⟩) hS (fun q _ h => (A_all hD hA hS.1) q h) (A_all hD hA hS.1) (fun r_7 u_7 t_7 H_7 L_7 ht_7 hvm_7 hw_7 hB_7 hz_7 hk_7 hS => ?_)
      rw [ht_7] at hB_7
      have hP : va_P (dC, dI) vwCl (modW b r1 r2 g (cd (TOKb x) false false)) H_7 := hB_7
      have hD : va_D A (modW b r1 r2 g (cd (TOKb x) false false)) := va_D_th hD
      obtain rfl : r_7 = 0 := hw_7.trans (by simp [b2i, hB_6])
      refine lv_if_ne (tgt := 59) hx hb dX13_put_54 (by decide) (fun c_8 => absurd (by decide) c_8) (fun c_8 => ?_)
      refine lv_iconst (v := 0) hx hb dX13_put_57 (by decide) ?_
      refine W.widen (k := 1) (n := 101) (by omega) (by omega) ?_
      have hcd : (cd (TOKb x) false false) = (cd (TOKb x) (rngb ky (-999) 999 && rngb mk 0 9999) true) := by simp [cd, hB_4, hB_6]
      have hP8 := hP.sub (ws' := [((b 0), .inr (15, [.int (cd (TOKb x) false false), .ref (b 1), .ref (b 2), .int 0, .ref (b 3), .ref (b 4), .ref (b 5), .null, .ref (b 6), .int 0, .int 0, .int 0, .int 0, .int 0]))]) [0] rfl
      rw [hcd] at hP8
      exact W.iret (v := 0) hx hb hr (fun t ht hW => ⟨⟨0, (), rfl, (fun h => by first | rfl | (exact absurd (cd_0.mp h) (by simp [hB_4, hB_6]))), ⟨[.ref (b 1), .ref (b 2), .int 0, .ref (b 3), .ref (b 4), .ref (b 5), .null, .ref (b 6), .int 0, .int 0, .int 0, .int 0, .int 0], P_at ht hP8⟩⟩, hS.F ht⟩) hS.2.2 dX13_put_58
    · have hB_6 : (TOKb x) = true := b2i_1 c_5
      obtain ⟨jx, hjx, rfl⟩ := TOK_ex hB_6
      refine lv_aload_n hx hb dX13_put_37 rfl (lv_at hl 1 rfl) ?_
      refine lv_iload_n hx hb dX13_put_38 rfl (lv_at hl 2 rfl) ?_
      refine lv_iconst (v := 1) hx hb dX13_put_39 (by decide) ?_
      refine va_calli (va_runV (As := [.int (nI jx), .int 1]) (rest := [.int 0, .int (b2i (TOKb (nI jx))), .ref (b 0)]) ⟨hx, hb, hml, hown, hts⟩ (c_X13_haveRoom l dC dI g b r1 r2 jx 1 th hjx H_2.size) (cwV 2 hts gX13_put_X13_haveRoom rfl rfl rfl (by decide +kernel) ⟨Nat.le_of_ble_eq_true rfl, Nat.le_of_ble_eq_true rfl⟩) ⟨PG_blind, va_recv hK hP (ci := 15) (q0 := 0) rfl (m_0 b r1 r2 g th), PG_call hK hG hS hP hD (A_all hD hA hS.1)⟩ rfl rfl hl.1 rfl (lv_room (Nat.le_of_ble_eq_true rfl)) dX13_put_40 ⟨Nat.le_of_ble_eq_true rfl, Nat.le_of_ble_eq_true rfl⟩) hS (fun q _ h => (A_all hD hA hS.1) q h) (A_all hD hA hS.1) (fun r_9 u_9 t_9 H_9 L_9 ht_9 hvm_9 hw_9 hB_9 hz_9 hk_9 hS => ?_)
      replace hB_9 := (show va_P (dC, dI) vwCl (modW b r1 r2 g th) t_9.heap from hB_9)
      rw [ht_9] at hB_9
      have hP := hB_9
      obtain rfl : r_9 = 1 := hw_9.trans (by decide)
      refine lv_if_eq (tgt := 50) hx hb dX13_put_43 (by decide) (fun c_10 => absurd c_10 (by decide)) (fun c_10 => ?_)
      refine lv_iconst (v := 1) hx hb dX13_put_46 (by decide) ?_
      refine lv_goto (tgt := 51) hx hb dX13_put_47 (by decide) ?_
      refine va_calli (va_runV (As := [.int (b2i (TOKb (nI jx))), .int 0, .int 1]) (rest := []) ⟨hx, hb, hml, hown, hts⟩ (c_X13_passes l dC dI g b r1 r2 th (TOKb (nI jx)) false true  H_9.size) (cwV 3 hts gX13_put_X13_passes rfl rfl rfl (by decide +kernel) ⟨Nat.le_of_ble_eq_true rfl, Nat.le_of_ble_eq_true rfl⟩) ⟨PG_blind, va_recv hK hP (ci := 15) (q0 := 0) rfl (m_0 b r1 r2 g th), PG_call hK hG hS hP hD (A_all hD hA hS.1)⟩ rfl rfl hl.1 rfl (lv_room (Nat.le_of_ble_eq_true rfl)) dX13_put_51 ⟨Nat.le_of_ble_eq_true rfl, Nat.le_of_ble_eq_true rfl⟩) hS (fun q _ h => (A_all hD hA hS.1) q h) (A_all hD hA hS.1) (fun r_11 u_11 t_11 H_11 L_11 ht_11 hvm_11 hw_11 hB_11 hz_11 hk_11 hS => ?_)
      rw [ht_11] at hB_11
      have hP : va_P (dC, dI) vwCl (modW b r1 r2 g (cd (TOKb (nI jx)) false true)) H_11 := hB_11
      have hD : va_D A (modW b r1 r2 g (cd (TOKb (nI jx)) false true)) := va_D_th hD
      obtain rfl : r_11 = 0 := hw_11.trans (by simp [b2i, (TOK_j hjx rfl)])
      refine lv_if_ne (tgt := 59) hx hb dX13_put_54 (by decide) (fun c_12 => absurd (by decide) c_12) (fun c_12 => ?_)
      refine lv_iconst (v := 0) hx hb dX13_put_57 (by decide) ?_
      refine W.widen (k := 1) (n := 101) (by omega) (by omega) ?_
      have hcd : (cd (TOKb (nI jx)) false true) = (cd (TOKb (nI jx)) (rngb ky (-999) 999 && rngb mk 0 9999) true) := by simp [cd, hB_4, (TOK_j hjx rfl)]
      have hP8 := hP.sub (ws' := [((b 0), .inr (15, [.int (cd (TOKb (nI jx)) false true), .ref (b 1), .ref (b 2), .int 0, .ref (b 3), .ref (b 4), .ref (b 5), .null, .ref (b 6), .int 0, .int 0, .int 0, .int 0, .int 0]))]) [0] rfl
      rw [hcd] at hP8
      exact W.iret (v := 0) hx hb hr (fun t ht hW => ⟨⟨0, (), rfl, (fun h => by first | rfl | (exact absurd (cd_0.mp h) (by simp [hB_4, (TOK_j hjx rfl)]))), ⟨[.ref (b 1), .ref (b 2), .int 0, .ref (b 3), .ref (b 4), .ref (b 5), .null, .ref (b 6), .int 0, .int 0, .int 0, .int 0, .int 0], P_at ht hP8⟩⟩, hS.F ht⟩) hS.2.2 dX13_put_58
  · have hB_4 : (rngb ky (-999) 999) = true := b2i_1 c_3
    refine lv_iload_n hx hb dX13_put_16 rfl (lv_at hl 4 rfl) ?_
    refine lv_iconst (v := 0) hx hb dX13_put_17 (by decide) ?_
    refine lv_sipush (v := 9999) hx hb dX13_put_18 (by decide) ?_
    refine va_calli (va_runS (As := [.int mk, .int 0, .int 9999]) (rest := [.int (b2i (TOKb x)), .ref (b 0)]) ⟨hx, hb, hml, hown, hts⟩ (c_X13_in l dC dI g (modW b r1 r2 g th) mk 0 9999   H_2.size) (va_cwS 3 hts gX13_put_X13_in rfl rfl rfl (by decide +kernel) ⟨Nat.le_of_ble_eq_true rfl, Nat.le_of_ble_eq_true rfl⟩) ⟨PG_blind, PG_call hK hG hS hP hD (A_all hD hA hS.1)⟩ rfl rfl hl.1 rfl (lv_room (Nat.le_of_ble_eq_true rfl)) dX13_put_21 ⟨Nat.le_of_ble_eq_true rfl, Nat.le_of_ble_eq_true rfl⟩) hS (fun q _ h => (A_all hD hA hS.1) q h) (A_all hD hA hS.1) (fun r_13 u_13 t_13 H_13 L_13 ht_13 hvm_13 hw_13 hB_13 hz_13 hk_13 hS => ?_)
    replace hB_13 := (show va_P (dC, dI) vwCl (modW b r1 r2 g th) t_13.heap from hB_13)
    rw [ht_13] at hB_13
    have hP := hB_13
    obtain rfl : r_13 = b2i (rngb mk 0 9999) := hw_13
    refine lv_if_eq (tgt := 31) hx hb dX13_put_24 (by decide) (fun c_14 => ?_) (fun c_14 => ?_)
    · have hB_15 : (rngb mk 0 9999) = false := b2i_0 c_14
      refine lv_iconst (v := 0) hx hb dX13_put_31 (by decide) ?_
      refine lv_iload hx hb dX13_put_32 (lv_at hl 0 rfl) ?_
      refine lv_if_eq (tgt := 50) hx hb dX13_put_34 (by decide) (fun c_16 => ?_) (fun c_16 => ?_)
      · have hB_17 : (TOKb x) = false := b2i_0 c_16
        refine lv_iconst (v := 0) hx hb dX13_put_50 (by decide) ?_
        refine va_calli (va_runV (As := [.int (b2i (TOKb x)), .int 0, .int 0]) (rest := []) ⟨hx, hb, hml, hown, hts⟩ (c_X13_passes l dC dI g b r1 r2 th (TOKb x) false false  H_13.size) (cwV 3 hts gX13_put_X13_passes rfl rfl rfl (by decide +kernel) ⟨Nat.le_of_ble_eq_true rfl, Nat.le_of_ble_eq_true rfl⟩) ⟨PG_blind, va_recv hK hP (ci := 15) (q0 := 0) rfl (m_0 b r1 r2 g th), PG_call hK hG hS hP hD (A_all hD hA hS.1)⟩ rfl rfl hl.1 rfl (lv_room (Nat.le_of_ble_eq_true rfl)) dX13_put_51 ⟨Nat.le_of_ble_eq_true rfl, Nat.le_of_ble_eq_true rfl⟩) hS (fun q _ h => (A_all hD hA hS.1) q h) (A_all hD hA hS.1) (fun r_18 u_18 t_18 H_18 L_18 ht_18 hvm_18 hw_18 hB_18 hz_18 hk_18 hS => ?_)
        rw [ht_18] at hB_18
        have hP : va_P (dC, dI) vwCl (modW b r1 r2 g (cd (TOKb x) false false)) H_18 := hB_18
        have hD : va_D A (modW b r1 r2 g (cd (TOKb x) false false)) := va_D_th hD
        obtain rfl : r_18 = 0 := hw_18.trans (by simp [b2i, hB_17])
        refine lv_if_ne (tgt := 59) hx hb dX13_put_54 (by decide) (fun c_19 => absurd (by decide) c_19) (fun c_19 => ?_)
        refine lv_iconst (v := 0) hx hb dX13_put_57 (by decide) ?_
        refine W.widen (k := 1) (n := 101) (by omega) (by omega) ?_
        have hcd : (cd (TOKb x) false false) = (cd (TOKb x) (rngb ky (-999) 999 && rngb mk 0 9999) true) := by simp [cd, hB_4, hB_15, hB_17]
        have hP8 := hP.sub (ws' := [((b 0), .inr (15, [.int (cd (TOKb x) false false), .ref (b 1), .ref (b 2), .int 0, .ref (b 3), .ref (b 4), .ref (b 5), .null, .ref (b 6), .int 0, .int 0, .int 0, .int 0, .int 0]))]) [0] rfl
        rw [hcd] at hP8
        exact W.iret (v := 0) hx hb hr (fun t ht hW => ⟨⟨0, (), rfl, (fun h => by first | rfl | (exact absurd (cd_0.mp h) (by simp [hB_4, hB_15, hB_17]))), ⟨[.ref (b 1), .ref (b 2), .int 0, .ref (b 3), .ref (b 4), .ref (b 5), .null, .ref (b 6), .int 0, .int 0, .int 0, .int 0, .int 0], P_at ht hP8⟩⟩, hS.F ht⟩) hS.2.2 dX13_put_58
      · have hB_17 : (TOKb x) = true := b2i_1 c_16
        obtain ⟨jx, hjx, rfl⟩ := TOK_ex hB_17
        refine lv_aload_n hx hb dX13_put_37 rfl (lv_at hl 1 rfl) ?_
        refine lv_iload_n hx hb dX13_put_38 rfl (lv_at hl 2 rfl) ?_
        refine lv_iconst (v := 1) hx hb dX13_put_39 (by decide) ?_
        refine va_calli (va_runV (As := [.int (nI jx), .int 1]) (rest := [.int 0, .int (b2i (TOKb (nI jx))), .ref (b 0)]) ⟨hx, hb, hml, hown, hts⟩ (c_X13_haveRoom l dC dI g b r1 r2 jx 1 th hjx H_13.size) (cwV 2 hts gX13_put_X13_haveRoom rfl rfl rfl (by decide +kernel) ⟨Nat.le_of_ble_eq_true rfl, Nat.le_of_ble_eq_true rfl⟩) ⟨PG_blind, va_recv hK hP (ci := 15) (q0 := 0) rfl (m_0 b r1 r2 g th), PG_call hK hG hS hP hD (A_all hD hA hS.1)⟩ rfl rfl hl.1 rfl (lv_room (Nat.le_of_ble_eq_true rfl)) dX13_put_40 ⟨Nat.le_of_ble_eq_true rfl, Nat.le_of_ble_eq_true rfl⟩) hS (fun q _ h => (A_all hD hA hS.1) q h) (A_all hD hA hS.1) (fun r_20 u_20 t_20 H_20 L_20 ht_20 hvm_20 hw_20 hB_20 hz_20 hk_20 hS => ?_)
        replace hB_20 := (show va_P (dC, dI) vwCl (modW b r1 r2 g th) t_20.heap from hB_20)
        rw [ht_20] at hB_20
        have hP := hB_20
        obtain rfl : r_20 = 1 := hw_20.trans (by decide)
        refine lv_if_eq (tgt := 50) hx hb dX13_put_43 (by decide) (fun c_21 => absurd c_21 (by decide)) (fun c_21 => ?_)
        refine lv_iconst (v := 1) hx hb dX13_put_46 (by decide) ?_
        refine lv_goto (tgt := 51) hx hb dX13_put_47 (by decide) ?_
        refine va_calli (va_runV (As := [.int (b2i (TOKb (nI jx))), .int 0, .int 1]) (rest := []) ⟨hx, hb, hml, hown, hts⟩ (c_X13_passes l dC dI g b r1 r2 th (TOKb (nI jx)) false true  H_20.size) (cwV 3 hts gX13_put_X13_passes rfl rfl rfl (by decide +kernel) ⟨Nat.le_of_ble_eq_true rfl, Nat.le_of_ble_eq_true rfl⟩) ⟨PG_blind, va_recv hK hP (ci := 15) (q0 := 0) rfl (m_0 b r1 r2 g th), PG_call hK hG hS hP hD (A_all hD hA hS.1)⟩ rfl rfl hl.1 rfl (lv_room (Nat.le_of_ble_eq_true rfl)) dX13_put_51 ⟨Nat.le_of_ble_eq_true rfl, Nat.le_of_ble_eq_true rfl⟩) hS (fun q _ h => (A_all hD hA hS.1) q h) (A_all hD hA hS.1) (fun r_22 u_22 t_22 H_22 L_22 ht_22 hvm_22 hw_22 hB_22 hz_22 hk_22 hS => ?_)
        rw [ht_22] at hB_22
        have hP : va_P (dC, dI) vwCl (modW b r1 r2 g (cd (TOKb (nI jx)) false true)) H_22 := hB_22
        have hD : va_D A (modW b r1 r2 g (cd (TOKb (nI jx)) false true)) := va_D_th hD
        obtain rfl : r_22 = 0 := hw_22.trans (by simp [b2i, (TOK_j hjx rfl)])
        refine lv_if_ne (tgt := 59) hx hb dX13_put_54 (by decide) (fun c_23 => absurd (by decide) c_23) (fun c_23 => ?_)
        refine lv_iconst (v := 0) hx hb dX13_put_57 (by decide) ?_
        refine W.widen (k := 1) (n := 101) (by omega) (by omega) ?_
        have hcd : (cd (TOKb (nI jx)) false true) = (cd (TOKb (nI jx)) (rngb ky (-999) 999 && rngb mk 0 9999) true) := by simp [cd, hB_4, hB_15, (TOK_j hjx rfl)]
        have hP8 := hP.sub (ws' := [((b 0), .inr (15, [.int (cd (TOKb (nI jx)) false true), .ref (b 1), .ref (b 2), .int 0, .ref (b 3), .ref (b 4), .ref (b 5), .null, .ref (b 6), .int 0, .int 0, .int 0, .int 0, .int 0]))]) [0] rfl
        rw [hcd] at hP8
        exact W.iret (v := 0) hx hb hr (fun t ht hW => ⟨⟨0, (), rfl, (fun h => by first | rfl | (exact absurd (cd_0.mp h) (by simp [hB_4, hB_15, (TOK_j hjx rfl)]))), ⟨[.ref (b 1), .ref (b 2), .int 0, .ref (b 3), .ref (b 4), .ref (b 5), .null, .ref (b 6), .int 0, .int 0, .int 0, .int 0, .int 0], P_at ht hP8⟩⟩, hS.F ht⟩) hS.2.2 dX13_put_58
    · have hB_15 : (rngb mk 0 9999) = true := b2i_1 c_14
      refine lv_iconst (v := 1) hx hb dX13_put_27 (by decide) ?_
      refine lv_goto (tgt := 32) hx hb dX13_put_28 (by decide) ?_
      refine lv_iload hx hb dX13_put_32 (lv_at hl 0 rfl) ?_
      refine lv_if_eq (tgt := 50) hx hb dX13_put_34 (by decide) (fun c_24 => ?_) (fun c_24 => ?_)
      · have hB_25 : (TOKb x) = false := b2i_0 c_24
        refine lv_iconst (v := 0) hx hb dX13_put_50 (by decide) ?_
        refine va_calli (va_runV (As := [.int (b2i (TOKb x)), .int 1, .int 0]) (rest := []) ⟨hx, hb, hml, hown, hts⟩ (c_X13_passes l dC dI g b r1 r2 th (TOKb x) true false  H_13.size) (cwV 3 hts gX13_put_X13_passes rfl rfl rfl (by decide +kernel) ⟨Nat.le_of_ble_eq_true rfl, Nat.le_of_ble_eq_true rfl⟩) ⟨PG_blind, va_recv hK hP (ci := 15) (q0 := 0) rfl (m_0 b r1 r2 g th), PG_call hK hG hS hP hD (A_all hD hA hS.1)⟩ rfl rfl hl.1 rfl (lv_room (Nat.le_of_ble_eq_true rfl)) dX13_put_51 ⟨Nat.le_of_ble_eq_true rfl, Nat.le_of_ble_eq_true rfl⟩) hS (fun q _ h => (A_all hD hA hS.1) q h) (A_all hD hA hS.1) (fun r_26 u_26 t_26 H_26 L_26 ht_26 hvm_26 hw_26 hB_26 hz_26 hk_26 hS => ?_)
        rw [ht_26] at hB_26
        have hP : va_P (dC, dI) vwCl (modW b r1 r2 g (cd (TOKb x) true false)) H_26 := hB_26
        have hD : va_D A (modW b r1 r2 g (cd (TOKb x) true false)) := va_D_th hD
        obtain rfl : r_26 = 0 := hw_26.trans (by simp [b2i, hB_25])
        refine lv_if_ne (tgt := 59) hx hb dX13_put_54 (by decide) (fun c_27 => absurd (by decide) c_27) (fun c_27 => ?_)
        refine lv_iconst (v := 0) hx hb dX13_put_57 (by decide) ?_
        refine W.widen (k := 1) (n := 101) (by omega) (by omega) ?_
        have hcd : (cd (TOKb x) true false) = (cd (TOKb x) (rngb ky (-999) 999 && rngb mk 0 9999) true) := by simp [cd, hB_4, hB_15, hB_25]
        have hP8 := hP.sub (ws' := [((b 0), .inr (15, [.int (cd (TOKb x) true false), .ref (b 1), .ref (b 2), .int 0, .ref (b 3), .ref (b 4), .ref (b 5), .null, .ref (b 6), .int 0, .int 0, .int 0, .int 0, .int 0]))]) [0] rfl
        rw [hcd] at hP8
        exact W.iret (v := 0) hx hb hr (fun t ht hW => ⟨⟨0, (), rfl, (fun h => by first | rfl | (exact absurd (cd_0.mp h) (by simp [hB_4, hB_15, hB_25]))), ⟨[.ref (b 1), .ref (b 2), .int 0, .ref (b 3), .ref (b 4), .ref (b 5), .null, .ref (b 6), .int 0, .int 0, .int 0, .int 0, .int 0], P_at ht hP8⟩⟩, hS.F ht⟩) hS.2.2 dX13_put_58
      · have hB_25 : (TOKb x) = true := b2i_1 c_24
        obtain ⟨jx, hjx, rfl⟩ := TOK_ex hB_25
        refine lv_aload_n hx hb dX13_put_37 rfl (lv_at hl 1 rfl) ?_
        refine lv_iload_n hx hb dX13_put_38 rfl (lv_at hl 2 rfl) ?_
        refine lv_iconst (v := 1) hx hb dX13_put_39 (by decide) ?_
        refine va_calli (va_runV (As := [.int (nI jx), .int 1]) (rest := [.int 1, .int (b2i (TOKb (nI jx))), .ref (b 0)]) ⟨hx, hb, hml, hown, hts⟩ (c_X13_haveRoom l dC dI g b r1 r2 jx 1 th hjx H_13.size) (cwV 2 hts gX13_put_X13_haveRoom rfl rfl rfl (by decide +kernel) ⟨Nat.le_of_ble_eq_true rfl, Nat.le_of_ble_eq_true rfl⟩) ⟨PG_blind, va_recv hK hP (ci := 15) (q0 := 0) rfl (m_0 b r1 r2 g th), PG_call hK hG hS hP hD (A_all hD hA hS.1)⟩ rfl rfl hl.1 rfl (lv_room (Nat.le_of_ble_eq_true rfl)) dX13_put_40 ⟨Nat.le_of_ble_eq_true rfl, Nat.le_of_ble_eq_true rfl⟩) hS (fun q _ h => (A_all hD hA hS.1) q h) (A_all hD hA hS.1) (fun r_28 u_28 t_28 H_28 L_28 ht_28 hvm_28 hw_28 hB_28 hz_28 hk_28 hS => ?_)
        replace hB_28 := (show va_P (dC, dI) vwCl (modW b r1 r2 g th) t_28.heap from hB_28)
        rw [ht_28] at hB_28
        have hP := hB_28
        obtain rfl : r_28 = 1 := hw_28.trans (by decide)
        refine lv_if_eq (tgt := 50) hx hb dX13_put_43 (by decide) (fun c_29 => absurd c_29 (by decide)) (fun c_29 => ?_)
        refine lv_iconst (v := 1) hx hb dX13_put_46 (by decide) ?_
        refine lv_goto (tgt := 51) hx hb dX13_put_47 (by decide) ?_
        refine va_calli (va_runV (As := [.int (b2i (TOKb (nI jx))), .int 1, .int 1]) (rest := []) ⟨hx, hb, hml, hown, hts⟩ (c_X13_passes l dC dI g b r1 r2 th (TOKb (nI jx)) true true  H_28.size) (cwV 3 hts gX13_put_X13_passes rfl rfl rfl (by decide +kernel) ⟨Nat.le_of_ble_eq_true rfl, Nat.le_of_ble_eq_true rfl⟩) ⟨PG_blind, va_recv hK hP (ci := 15) (q0 := 0) rfl (m_0 b r1 r2 g th), PG_call hK hG hS hP hD (A_all hD hA hS.1)⟩ rfl rfl hl.1 rfl (lv_room (Nat.le_of_ble_eq_true rfl)) dX13_put_51 ⟨Nat.le_of_ble_eq_true rfl, Nat.le_of_ble_eq_true rfl⟩) hS (fun q _ h => (A_all hD hA hS.1) q h) (A_all hD hA hS.1) (fun r_30 u_30 t_30 H_30 L_30 ht_30 hvm_30 hw_30 hB_30 hz_30 hk_30 hS => ?_)
        rw [ht_30] at hB_30
        have hP : va_P (dC, dI) vwCl (modW b r1 r2 g (cd (TOKb (nI jx)) true true)) H_30 := hB_30
        have hD : va_D A (modW b r1 r2 g (cd (TOKb (nI jx)) true true)) := va_D_th hD
        obtain rfl : r_30 = 1 := hw_30.trans (by simp [b2i, (TOK_j hjx rfl)])
        refine lv_if_ne (tgt := 59) hx hb dX13_put_54 (by decide) (fun c_31 => ?_) (fun c_31 => absurd c_31 (by decide))
        obtain ⟨hP, hD⟩ := mod_x b r1 r2 g (cd (TOKb (nI jx)) true true) jx hjx hP hD
        replace hP := hP.sub (ws' := [((b 0), .inr (15, [.int (cd (TOKb (nI jx)) true true), .ref (b 1), .ref (b 2), .int (nI 0), .ref (b 3), .ref (b 4), .ref (b 5), .null, .ref (b 6), .int 0, .int 0, .int 0, .int 0, .int 0])), ((b 3), .inl (g 4, 8, .inr (.inr (.inr (.inr (fun i => if i < 8 then some (r1 i) else none)))))), ((r1 jx), .inl (g 0, 0, .inl (fun _ => 0))), ((b 1), .inl (g 0, 200, .inl (fun _ => 0))), ((b 2), .inl (g 0, 200, .inl (fun _ => 0)))]) [0, 1, 2, 3, 4] rfl
        replace hD := hD.sub (ws' := [((b 0), .inr (15, [.int (cd (TOKb (nI jx)) true true), .ref (b 1), .ref (b 2), .int (nI 0), .ref (b 3), .ref (b 4), .ref (b 5), .null, .ref (b 6), .int 0, .int 0, .int 0, .int 0, .int 0])), ((b 3), .inl (g 4, 8, .inr (.inr (.inr (.inr (fun i => if i < 8 then some (r1 i) else none)))))), ((r1 jx), .inl (g 0, 0, .inl (fun _ => 0))), ((b 1), .inl (g 0, 200, .inl (fun _ => 0))), ((b 2), .inl (g 0, 200, .inl (fun _ => 0)))]) [0, 1, 2, 3, 4] (by decide) rfl
        have hP : va_P (dC, dI) vwCl [((b 0), .inr (15, [.int (cd (TOKb (nI jx)) true true), .ref (b 1), .ref (b 2), .int (nI 0), .ref (b 3), .ref (b 4), .ref (b 5), .null, .ref (b 6), .int 0, .int 0, .int 0, .int 0, .int 0])), ((b 3), .inl (g 4, 8, .inr (.inr (.inr (.inr (fun i => if i < 8 then some (r1 i) else none)))))), ((r1 jx), .inl (g 0, 0, .inl (fun _ => 0))), ((b 1), .inl (g 0, 200, .inl (fun _ => 0))), ((b 2), .inl (g 0, 200, .inl (fun _ => 0)))] H_30 := hP
        have hD : va_D A [((b 0), .inr (15, [.int (cd (TOKb (nI jx)) true true), .ref (b 1), .ref (b 2), .int (nI 0), .ref (b 3), .ref (b 4), .ref (b 5), .null, .ref (b 6), .int 0, .int 0, .int 0, .int 0, .int 0])), ((b 3), .inl (g 4, 8, .inr (.inr (.inr (.inr (fun i => if i < 8 then some (r1 i) else none)))))), ((r1 jx), .inl (g 0, 0, .inl (fun _ => 0))), ((b 1), .inl (g 0, 200, .inl (fun _ => 0))), ((b 2), .inl (g 0, 200, .inl (fun _ => 0)))] := hD
        refine lv_aload_n hx hb dX13_put_59 rfl (lv_at hl 1 rfl) ?_
        refine lv_iload_n hx hb dX13_put_60 rfl (lv_at hl 2 rfl) ?_
        refine lv_iload_n hx hb dX13_put_61 rfl (lv_at hl 3 rfl) ?_
        refine lv_iload_n hx hb dX13_put_62 rfl (lv_at hl 4 rfl) ?_
        have hPc := hP.sub (ws' := [((b 0), .inr (15, [.int (cd (TOKb (nI jx)) true true), .ref (b 1), .ref (b 2), .int (nI 0), .ref (b 3), .ref (b 4), .ref (b 5), .null, .ref (b 6), .int 0, .int 0, .int 0, .int 0, .int 0])), ((b 3), .inl (g 4, 8, .inr (.inr (.inr (.inr (fun i => if i < 8 then some (r1 i) else none)))))), ((r1 jx), .inl (g 0, 0, .inl (fun _ => 0))), ((b 1), .inl (g 0, 200, .inl (fun _ => 0))), ((b 2), .inl (g 0, 200, .inl (fun _ => 0)))]) [0, 1, 2, 3, 4] rfl
        have hDc := hD.sub (ws' := [((b 0), .inr (15, [.int (cd (TOKb (nI jx)) true true), .ref (b 1), .ref (b 2), .int (nI 0), .ref (b 3), .ref (b 4), .ref (b 5), .null, .ref (b 6), .int 0, .int 0, .int 0, .int 0, .int 0])), ((b 3), .inl (g 4, 8, .inr (.inr (.inr (.inr (fun i => if i < 8 then some (r1 i) else none)))))), ((r1 jx), .inl (g 0, 0, .inl (fun _ => 0))), ((b 1), .inl (g 0, 200, .inl (fun _ => 0))), ((b 2), .inl (g 0, 200, .inl (fun _ => 0)))]) [0, 1, 2, 3, 4] (by decide) rfl
        have hFc := va_free (wc := [((b 0), .inr (15, [.int (cd (TOKb (nI jx)) true true), .ref (b 1), .ref (b 2), .int (nI 0), .ref (b 3), .ref (b 4), .ref (b 5), .null, .ref (b 6), .int 0, .int 0, .int 0, .int 0, .int 0])), ((b 3), .inl (g 4, 8, .inr (.inr (.inr (.inr (fun i => if i < 8 then some (r1 i) else none)))))), ((r1 jx), .inl (g 0, 0, .inl (fun _ => 0))), ((b 1), .inl (g 0, 200, .inl (fun _ => 0))), ((b 2), .inl (g 0, 200, .inl (fun _ => 0)))]) hD hS hA [0, 1, 2, 3, 4] rfl
        refine va_callv (va_runV (As := [.int (nI jx), .int ky, .int mk]) (rest := []) ⟨hx, hb, hml, hown, hts⟩ (c_X13_comes l dC dI g b r1 r2 jx (r1 jx) 0 (fun i => if i < 8 then some (r1 i) else none) (fun _ => 0) (fun _ => 0) (fun _ => 0) ky mk (cd (TOKb (nI jx)) true true) hjx (show (if jx < 8 then some (r1 jx) else none) = some (r1 jx) from if_pos hjx) (by decide) H_30.size) (cwV 3 hts gX13_put_X13_comes rfl rfl rfl (by decide +kernel) ⟨Nat.le_of_ble_eq_true rfl, Nat.le_of_ble_eq_true rfl⟩) ⟨PG_blind, va_recv hK hP (ci := 15) (q0 := 0) rfl rfl, PG_call hK hG hS hPc hDc hFc⟩ rfl rfl hl.1 rfl (lv_room (Nat.le_of_ble_eq_true rfl)) dX13_put_63 ⟨Nat.le_of_ble_eq_true rfl, Nat.le_of_ble_eq_true rfl⟩) hS (fun q _ h => hFc q h) hFc (fun u_32 t_32 H_32 L_32 ht_32 hvm_32 hw_32 hB_32 hz_32 hk_32 hS => ?_)
        obtain ⟨hP1, hD1⟩ := hB_32
        rw [ht_32] at hP1
        obtain ⟨hP, hD⟩ := va_join (wr := []) (w1 := [((b 0), .inr (15, [.int (cd (TOKb (nI jx)) true true), .ref (b 1), .ref (b 2), .int (nI (0 + 1)), .ref (b 3), .ref (b 4), .ref (b 5), .null, .ref (b 6), .int 0, .int 0, .int 0, .int 0, .int 0])), ((b 3), .inl (g 4, 8, .inr (.inr (.inr (.inr (va_up (fun i => if i < 8 then some (r1 i) else none) (nI jx).toNatClampNeg (some (u_32.1)))))))), ((u_32.1), .inl (g 0, (0 + 1), .inl (u_32.2))), ((b 1), .inl (g 0, 200, .inl (upd (fun _ => 0) (nI 0).toNatClampNeg ky))), ((b 2), .inl (g 0, 200, .inl (upd (fun _ => 0) (nI 0).toNatClampNeg mk)))]) hP hD [0, 1, 2, 3, 4] [] rfl rfl (by decide) (by decide) hk_32 hFc hP1 hD1
        have hP : va_P (dC, dI) vwCl [((b 0), .inr (15, [.int (cd (TOKb (nI jx)) true true), .ref (b 1), .ref (b 2), .int (nI (0 + 1)), .ref (b 3), .ref (b 4), .ref (b 5), .null, .ref (b 6), .int 0, .int 0, .int 0, .int 0, .int 0])), ((b 3), .inl (g 4, 8, .inr (.inr (.inr (.inr (va_up (fun i => if i < 8 then some (r1 i) else none) (nI jx).toNatClampNeg (some (u_32.1)))))))), ((u_32.1), .inl (g 0, (0 + 1), .inl (u_32.2))), ((b 1), .inl (g 0, 200, .inl (upd (fun _ => 0) (nI 0).toNatClampNeg ky))), ((b 2), .inl (g 0, 200, .inl (upd (fun _ => 0) (nI 0).toNatClampNeg mk)))] H_32 := hP
        have hD : va_D A [((b 0), .inr (15, [.int (cd (TOKb (nI jx)) true true), .ref (b 1), .ref (b 2), .int (nI (0 + 1)), .ref (b 3), .ref (b 4), .ref (b 5), .null, .ref (b 6), .int 0, .int 0, .int 0, .int 0, .int 0])), ((b 3), .inl (g 4, 8, .inr (.inr (.inr (.inr (va_up (fun i => if i < 8 then some (r1 i) else none) (nI jx).toNatClampNeg (some (u_32.1)))))))), ((u_32.1), .inl (g 0, (0 + 1), .inl (u_32.2))), ((b 1), .inl (g 0, 200, .inl (upd (fun _ => 0) (nI 0).toNatClampNeg ky))), ((b 2), .inl (g 0, 200, .inl (upd (fun _ => 0) (nI 0).toNatClampNeg mk)))] := hD
        refine W.widen (k := 1) (n := 101) (by omega) (by omega) ?_
        refine lv_aload_n hx hb dX13_put_66 rfl (lv_at hl 1 rfl) ?_
        refine va_get (D := (dC, dI)) (ci := 15) (v := .int (nI (0 + 1))) (C := RX13) (T := TX13) (N := 14) hx hb hts hiX13 hown hK hP 0 rfl rfl 3 (by decide) hf41 (fun _ h9 => h9) rfl dX13_put_67 ?_
        refine lv_iconst (v := 1) hx hb dX13_put_70 (by decide) ?_
        refine lv_isub hx hb dX13_put_71 ?_
        refine lv_topi (fun x_33 ex_33 => ?_)
        obtain rfl : x_33 = nI 0 := ex_33.trans (nI_sub1 _)
        have hcd : (cd (TOKb (nI jx)) true true) = (cd (TOKb (nI jx)) (rngb ky (-999) 999 && rngb mk 0 9999) true) := by simp [cd, hB_4, hB_15, (TOK_j hjx rfl)]
        have hP8 := hP.sub (ws' := [((b 0), .inr (15, [.int (cd (TOKb (nI jx)) true true), .ref (b 1), .ref (b 2), .int (nI (0 + 1)), .ref (b 3), .ref (b 4), .ref (b 5), .null, .ref (b 6), .int 0, .int 0, .int 0, .int 0, .int 0]))]) [0] rfl
        rw [hcd] at hP8
        exact W.iret (v := (nI 0)) hx hb hr (fun t ht hW => ⟨⟨(nI 0), (), rfl, (fun h => by first | rfl | (exact absurd (cd_0.mp h) (by simp [hB_4, hB_15, (TOK_j hjx rfl)]))), ⟨[.ref (b 1), .ref (b 2), .int (nI (0 + 1)), .ref (b 3), .ref (b 4), .ref (b 5), .null, .ref (b 6), .int 0, .int 0, .int 0, .int 0, .int 0], P_at ht hP8⟩⟩, hS.F ht⟩) hS.2.2 dX13_put_72
