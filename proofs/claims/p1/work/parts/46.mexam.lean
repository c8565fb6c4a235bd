theorem dX13_example_0 : decode cX13_example 0 = .ok (.aload_n 0, 1) := by decide +kernel
theorem dX13_example_1 : decode cX13_example 1 = .ok (.iload_n 1, 1) := by decide +kernel
theorem dX13_example_2 : decode cX13_example 2 = .ok (.iconst 0, 1) := by decide +kernel
theorem dX13_example_3 : decode cX13_example 3 = .ok (.iconst 2, 1) := by decide +kernel
set_option maxRecDepth 20000 in
theorem ggX13_example_X13_in : GoodIn wsX13_example wsX13_in := goodIn_r _ [6] (by decide +kernel) (by decide +kernel)
set_option maxRecDepth 20000 in
theorem gX13_example_X13_in : GoodIn wsX13_example (va_wsS RX13 7 yX13_in wsX13_in) := goodIn_app (goodIn_of _ (by decide +kernel)) ggX13_example_X13_in
theorem dX13_example_4 : decode cX13_example 4 = .ok (.invokestatic 7, 3) := by decide +kernel
theorem dX13_example_7 : decode cX13_example 7 = .ok (.iconst 1, 1) := by decide +kernel
theorem dX13_example_8 : decode cX13_example 8 = .ok (.iconst 1, 1) := by decide +kernel
set_option maxRecDepth 20000 in
theorem ggX13_example_X13_passes : GoodIn wsX13_example wsX13_passes := goodIn_r _ [10, 11, 61, 62, 63, 64, 65, 66, 67, 68, 69, 70, 71, 72, 73, 74] (by decide +kernel) (by decide +kernel)
set_option maxRecDepth 20000 in
theorem gX13_example_X13_passes : GoodIn wsX13_example (wsV RX13 55 RX13 yX13_passes wsX13_passes) := goodIn_app (goodIn_of _ (by decide +kernel)) ggX13_example_X13_passes
theorem dX13_example_9 : decode cX13_example 9 = .ok (.invokevirtual 55, 3) := by decide +kernel
theorem dX13_example_12 : decode cX13_example 12 = .ok (.ifCond .ne 5, 3) := by decide +kernel
theorem dX13_example_17 : decode cX13_example 17 = .ok (.iload_n 1, 1) := by decide +kernel
theorem dX13_example_18 : decode cX13_example 18 = .ok (.ifCond .ne 8, 3) := by decide +kernel
theorem dX13_example_26 : decode cX13_example 26 = .ok (.iload_n 1, 1) := by decide +kernel
theorem dX13_example_27 : decode cX13_example 27 = .ok (.iconst 1, 1) := by decide +kernel
theorem dX13_example_28 : decode cX13_example 28 = .ok (.if_icmp .ne 8, 3) := by decide +kernel
theorem dX13_example_36 : decode cX13_example 36 = .ok (.ldc 225, 2) := by decide +kernel
theorem dX13_example_38 : decode cX13_example 38 = .ok (.astore_n 2, 1) := by decide +kernel
theorem dX13_example_39 : decode cX13_example 39 = .ok (.iconst 0, 1) := by decide +kernel
theorem dX13_example_40 : decode cX13_example 40 = .ok (.istore_n 3, 1) := by decide +kernel
theorem dX13_example_41 : decode cX13_example 41 = .ok (.iload_n 3, 1) := by decide +kernel
theorem dX13_example_42 : decode cX13_example 42 = .ok (.aload_n 2, 1) := by decide +kernel
set_option maxRecDepth 20000 in
theorem ggX13_example_J0_length_8abf5 : GoodIn wsX13_example wsJ0_length_8abf5 := goodIn_r _ [16, 17, 18, 19, 20, 15, 21, 22, 23] (by decide +kernel) (by decide +kernel)
set_option maxRecDepth 20000 in
theorem gX13_example_J0_length_8abf5 : GoodIn wsX13_example (wsV RX13 227 RJ0 yJ0_length_8abf5 wsJ0_length_8abf5) := goodIn_app (goodIn_of _ (by decide +kernel)) ggX13_example_J0_length_8abf5
theorem dX13_example_43 : decode cX13_example 43 = .ok (.invokevirtual 227, 3) := by decide +kernel
theorem dX13_example_46 : decode cX13_example 46 = .ok (.if_icmp .ge 20, 3) := by decide +kernel
theorem dX13_example_66 : decode cX13_example 66 = .ok (.aload_n 0, 1) := by decide +kernel
theorem dX13_example_67 : decode cX13_example 67 = .ok (.aload_n 2, 1) := by decide +kernel
theorem dX13_example_68 : decode cX13_example 68 = .ok (.invokevirtual 227, 3) := by decide +kernel
theorem dX13_example_71 : decode cX13_example 71 = .ok (.putfield 218, 3) := by decide +kernel
theorem dX13_example_74 : decode cX13_example 74 = .ok (.aload_n 0, 1) := by decide +kernel
theorem dX13_example_75 : decode cX13_example 75 = .ok (.getfield 218, 3) := by decide +kernel
theorem dX13_example_78 : decode cX13_example 78 = .ok (.ireturn, 1) := by decide +kernel
theorem dX13_example_49 : decode cX13_example 49 = .ok (.aload_n 0, 1) := by decide +kernel
theorem dX13_example_50 : decode cX13_example 50 = .ok (.getfield 38, 3) := by decide +kernel
theorem dX13_example_53 : decode cX13_example 53 = .ok (.iload_n 3, 1) := by decide +kernel
theorem dX13_example_54 : decode cX13_example 54 = .ok (.aload_n 2, 1) := by decide +kernel
theorem dX13_example_55 : decode cX13_example 55 = .ok (.iload_n 3, 1) := by decide +kernel
set_option maxRecDepth 20000 in
theorem ggX13_example_J0_charAt_5068e : GoodIn wsX13_example wsJ0_charAt_5068e := goodIn_r _ [27, 17, 28, 29, 30, 15, 31, 22, 23, 32, 33, 34, 35, 36, 37, 38, 39, 40, 41, 42, 43, 44, 45, 46, 47, 48, 49, 50, 51, 52, 53, 54, 55, 56, 57, 58, 59, 60] (by decide +kernel) (by decide +kernel)
set_option maxRecDepth 20000 in
theorem gX13_example_J0_charAt_5068e : GoodIn wsX13_example (wsV RX13 232 RJ0 yJ0_charAt_5068e wsJ0_charAt_5068e) := goodIn_app (goodIn_of _ (by decide +kernel)) ggX13_example_J0_charAt_5068e
theorem dX13_example_56 : decode cX13_example 56 = .ok (.invokevirtual 232, 3) := by decide +kernel
theorem dX13_example_59 : decode cX13_example 59 = .ok (.iastore, 1) := by decide +kernel
theorem dX13_example_60 : decode cX13_example 60 = .ok (.iinc 3 1, 3) := by decide +kernel
theorem dX13_example_63 : decode cX13_example 63 = .ok (.goto (-22), 3) := by decide +kernel
theorem dX13_example_31 : decode cX13_example 31 = .ok (.ldc 223, 2) := by decide +kernel
theorem dX13_example_33 : decode cX13_example 33 = .ok (.goto 5, 3) := by decide +kernel
theorem dX13_example_21 : decode cX13_example 21 = .ok (.ldc 221, 2) := by decide +kernel
theorem dX13_example_23 : decode cX13_example 23 = .ok (.goto 15, 3) := by decide +kernel
theorem dX13_example_15 : decode cX13_example 15 = .ok (.iconst 0, 1) := by decide +kernel
theorem dX13_example_16 : decode cX13_example 16 = .ok (.ireturn, 1) := by decide +kernel
/-- what example answers -/
theorem exl_0 : exl 0 = nI (lnS 0) := rfl
theorem exl_1 : exl 1 = nI (lnS 1) := rfl
theorem exl_n {x : Int32} (h0 : ¬ x = 0) (h1 : ¬ x = 1) : exl x = nI (lnS 2) := by simp [exl, h0, h1]
theorem sh_byt {x : BitVec 64} {s : Nat} (h : s ≤ 56) : (x.sshiftRight s) &&& 255#64 = (x >>> s) &&& 255#64 := by
  apply BitVec.eq_of_getLsbD_eq
  intro i hi
  rw [BitVec.getLsbD_and, BitVec.getLsbD_and, BitVec.getLsbD_sshiftRight, BitVec.getLsbD_ushiftRight]
  rcases Nat.lt_or_ge i 8 with h8 | h8
  · have e1 : s + i < 64 := by omega
    have e2 : ¬ 64 ≤ i := by omega
    simp [e1, e2]
  · have e3 : (255#64).getLsbD i = false := by
      show Nat.testBit (255#64).toNat i = false
      exact Nat.testBit_lt_two_pow (Nat.lt_of_lt_of_le (show (255#64).toNat < 2 ^ 8 by decide) (Nat.pow_le_pow_right (by decide) h8))
    rw [e3, Bool.and_false, Bool.and_false]
set_option maxHeartbeats 4000000 in
set_option maxRecDepth 100000 in
theorem c_X13_example (l : Launch) (dC : Nat → ClassId) (dI : Nat → Nat → Nat) (g : Nat → ClassId) (b : Nat → Nat) (r1 : Nat → Nat) (r2 : Nat → Nat) (x : Int32) (th : Int32) (sz : Nat) : Met l yX13_example wsX13_example ({ frames := 4, cells := 0, slots := 0, locals := 85 }) (va_Pc [.ref (b 0), .int x] (PG (dC, dI) g (modW b r1 r2 g th) sz)) (va_Qi (fun (r : Int32) (_ : Unit) => (cd (rngb x 0 2) true true) = 0 → r = exl x) (fun (_ : Unit) t => ∃ fs : List Value, va_P (dC, dI) vwCl [(b 0, .inr (15, .int (cd (rngb x 0 2) true true) :: fs))] t.heap) (va_A (modW b r1 r2 g th) sz)) 0 0 (va_A (modW b r1 r2 g th) sz) := by
  refine Met.ofW (cc := cX13_example) (maxL := 4) (ret := (some .int)) (by decide) rfl ?_
  intro p e s m args below meth c s₁ B hml hv
  obtain ⟨rfl, hsz, hP, hK, hD0, hG⟩ := hv
  have hx := B.exec
  have hb := B.bytes
  have hr := B.returns
  have hts := atoms_spec (ws := wsX13_example) B.pre
  have hown : s.vm.findClass RX13 = some m.cls := findClass_of_methodNamed B.named
  have hlocks := B.notSynchronized
  subst hsz
  have hD := hD0.self (sz := s.heap.size)
  generalize hAe : va_A (modW b r1 r2 g th) s.heap.size = A at hD hG ⊢
  have hA : ∀ q : Nat, s.heap.size ≤ q → A q := fun q h => by rw [← hAe]; exact Or.inr h
  have hS : va_S A s.heap s.heap [] := va_S.rf
  have hl := lv_entry ([.ref (b 0), .int x]) (n := 4) (Nat.le_of_ble_eq_true rfl)
  rw [lg_entry_eq]
  generalize (lg_sl ([.ref (b 0), .int x]) ++ List.replicate (4 - (lg_sl ([.ref (b 0), .int x])).length) Slot.unset).toArray = ls at hl ⊢
  have hl : lv_has ls 4 [(0, .ref (b 0)), (1, .int x)] := hl
  have hf218 := hts (Cond.fieldLink RX13 218 "RunmergeOfficeModel" "textMany" "I") (by decide +kernel)
  have hiX13 : ∀ w ∈ u_ws RX13 TX13 14, w ∈ wsX13_example := by decide +kernel
  have hf38 := hts (Cond.fieldLink RX13 38 "RunmergeOfficeModel" "text" "[I") (by decide +kernel)
  refine lv_aload_n hx hb dX13_example_0 rfl (lv_at hl 0 rfl) ?_
  refine lv_iload_n hx hb dX13_example_1 rfl (lv_at hl 1 rfl) ?_
  refine lv_iconst (v := 0) hx hb dX13_example_2 (by decide) ?_
  refine lv_iconst (v := 2) hx hb dX13_example_3 (by decide) ?_
  refine va_calli (va_runS (As := [.int x, .int 0, .int 2]) (rest := [.ref (b 0)]) ⟨hx, hb, hml, hown, hts⟩ (c_X13_in l dC dI g (modW b r1 r2 g th) x 0 2   s.heap.size) (va_cwS 3 hts gX13_example_X13_in rfl rfl rfl (by decide +kernel) ⟨Nat.le_of_ble_eq_true rfl, Nat.le_of_ble_eq_true rfl⟩) ⟨PG_blind, PG_call hK hG hS hP hD (A_all hD hA hS.1)⟩ rfl rfl hl.1 rfl (lv_room (Nat.le_of_ble_eq_true rfl)) dX13_example_4 ⟨Nat.le_of_ble_eq_true rfl, Nat.le_of_ble_eq_true rfl⟩) hS (fun q _ h => (A_all hD hA hS.1) q h) (A_all hD hA hS.1) (fun r_1 u_1 t_1 H_1 L_1 ht_1 hvm_1 hw_1 hB_1 hz_1 hk_1 hS => ?_)
  replace hB_1 := (show va_P (dC, dI) vwCl (modW b r1 r2 g th) t_1.heap from hB_1)
  rw [ht_1] at hB_1
  have hP := hB_1
  obtain rfl : r_1 = b2i (rngb x 0 2) := hw_1
  refine lv_iconst (v := 1) hx hb dX13_example_7 (by decide) ?_
  refine lv_iconst (v := 1) hx hb dX13_example_8 (by decide) ?_
  refine va_calli (va_runV (As := [.int (b2i (rngb x 0 2)), .int 1, .int 1]) (rest := []) ⟨hx, hb, hml, hown, hts⟩ (c_X13_passes l dC dI g b r1 r2 th (rngb x 0 2) true true  H_1.size) (cwV 3 hts gX13_example_X13_passes rfl rfl rfl (by decide +kernel) ⟨Nat.le_of_ble_eq_true rfl, Nat.le_of_ble_eq_true rfl⟩) ⟨PG_blind, va_recv hK hP (ci := 15) (q0 := 0) rfl (m_0 b r1 r2 g th), PG_call hK hG hS hP hD (A_all hD hA hS.1)⟩ rfl rfl hl.1 rfl (lv_room (Nat.le_of_ble_eq_true rfl)) dX13_example_9 ⟨Nat.le_of_ble_eq_true rfl, Nat.le_of_ble_eq_true rfl⟩) hS (fun q _ h => (A_all hD hA hS.1) q h) (A_all hD hA hS.1) (fun r_2 u_2 t_2 H_2 L_2 ht_2 hvm_2 hw_2 hB_2 hz_2 hk_2 hS => ?_)
  rw [ht_2] at hB_2
  have hP : va_P (dC, dI) vwCl (modW b r1 r2 g (cd (rngb x 0 2) true true)) H_2 := hB_2
  have hD : va_D A (modW b r1 r2 g (cd (rngb x 0 2) true true)) := va_D_th hD
  obtain rfl : r_2 = b2i (rngb x 0 2) := hw_2.trans (by simp)
  refine lv_if_ne (tgt := 17) hx hb dX13_example_12 (by decide) (fun c_3 => ?_) (fun c_3 => ?_)
  · have hB_4 : (rngb x 0 2) = true := b2i_1 c_3
    replace hP := hP.sub (ws' := [((b 0), .inr (15, [.int (cd (rngb x 0 2) true true), .ref (b 1), .ref (b 2), .int 0, .ref (b 3), .ref (b 4), .ref (b 5), .null, .ref (b 6), .int (nI 0), .int 0, .int 0, .int 0, .int 0])), ((b 6), .inl (g 0, 160, .inl (fun _ => 0)))]) [0, 6] rfl
    replace hD := hD.sub (ws' := [((b 0), .inr (15, [.int (cd (rngb x 0 2) true true), .ref (b 1), .ref (b 2), .int 0, .ref (b 3), .ref (b 4), .ref (b 5), .null, .ref (b 6), .int (nI 0), .int 0, .int 0, .int 0, .int 0])), ((b 6), .inl (g 0, 160, .inl (fun _ => 0)))]) [0, 6] (by decide) rfl
    have hP : va_P (dC, dI) vwCl [((b 0), .inr (15, [.int (cd (rngb x 0 2) true true), .ref (b 1), .ref (b 2), .int 0, .ref (b 3), .ref (b 4), .ref (b 5), .null, .ref (b 6), .int (nI 0), .int 0, .int 0, .int 0, .int 0])), ((b 6), .inl (g 0, 160, .inl (fun _ => 0)))] H_2 := hP
    have hD : va_D A [((b 0), .inr (15, [.int (cd (rngb x 0 2) true true), .ref (b 1), .ref (b 2), .int 0, .ref (b 3), .ref (b 4), .ref (b 5), .null, .ref (b 6), .int (nI 0), .int 0, .int 0, .int 0, .int 0])), ((b 6), .inl (g 0, 160, .inl (fun _ => 0)))] := hD
    refine lv_iload_n hx hb dX13_example_17 rfl (lv_at hl 1 rfl) ?_
    refine lv_if_ne (tgt := 26) hx hb dX13_example_18 (by decide) (fun c_5 => ?_) (fun c_5 => ?_)
    · refine lv_iload_n hx hb dX13_example_26 rfl (lv_at hl 1 rfl) ?_
      refine lv_iconst (v := 1) hx hb dX13_example_27 (by decide) ?_
      refine lv_icmp_ne (tgt := 36) hx hb dX13_example_28 (by decide) (fun c_6 => ?_) (fun c_6 => ?_)
      · obtain ⟨as_5, hR_5, hT_5⟩ := GS_of (sx_5 hG)
        refine va_ldcS hx hb hown hR_5 dX13_example_36 ?_
        refine lv_astore_n (lv' := [(2, .ref as_5), (0, .ref (b 0)), (1, .int x)]) hx hb dX13_example_38 rfl hl (by decide) rfl (fun ls hl => ?_)
        refine lv_iconst (v := 0) hx hb dX13_example_39 (by decide) ?_
        refine lv_istore_n (lv' := [(3, .int 0), (2, .ref as_5), (0, .ref (b 0)), (1, .int x)]) hx hb dX13_example_40 rfl hl (by decide) rfl (fun ls hl => ?_)
        have hnb := lnS_le 2 (by decide)
        refine W_abs (fun Q hQ => ?_)
        have LOOP41 : ∀ (n i : Nat), i ≤ (lnS 2) → (lnS 2) < i + n → ∀ (fx : Nat → Int32) (H : Heap) (locs : List Loc), va_P (dC, dI) vwCl [((b 0), .inr (15, [.int (cd (rngb x 0 2) true true), .ref (b 1), .ref (b 2), .int 0, .ref (b 3), .ref (b 4), .ref (b 5), .null, .ref (b 6), .int (nI 0), .int 0, .int 0, .int 0, .int 0])), ((b 6), .inl (g 0, 160, .inl fx))] H → va_D A [((b 0), .inr (15, [.int (cd (rngb x 0 2) true true), .ref (b 1), .ref (b 2), .int 0, .ref (b 3), .ref (b 4), .ref (b 5), .null, .ref (b 6), .int (nI 0), .int 0, .int 0, .int 0, .int 0])), ((b 6), .inl (g 0, 160, .inl fx))] → va_S A s.heap H locs → ∀ (ls : Array Slot), lv_has ls 4 [(3, .int (nI i)), (0, .ref (b 0)), (1, .int x), (2, .ref as_5)] → W p l e (headSpec wsX13_example ({ frames := 4, cells := 0, slots := 0, locals := 85 })).room s m ([.ref (b 0), .int x] : List Value).toArray below meth c H locs 0 0 Q (F0 m 41 ls []) := by
          intro n
          induction n with
          | zero =>
            intro i h1 h2
            exact absurd h2 (by omega)
          | succ n ih =>
            intro i hi hin fx H locs hP hD hS ls hl
            refine lv_iload_n hx hb dX13_example_41 rfl (lv_at hl 0 rfl) ?_
            refine lv_aload_n hx hb dX13_example_42 rfl (lv_at hl 3 rfl) ?_
            refine va_calli (va_runV (As := []) (rest := [.int (nI i)]) ⟨hx, hb, hml, hown, hts⟩ (c_J0_length_8abf5 l dC dI g [((b 0), .inr (15, [.int (cd (rngb x 0 2) true true), .ref (b 1), .ref (b 2), .int 0, .ref (b 3), .ref (b 4), .ref (b 5), .null, .ref (b 6), .int (nI 0), .int 0, .int 0, .int 0, .int 0])), ((b 6), .inl (g 0, 160, .inl fx))] (lnS 2) as_5  hnb.1 H.size) (cwV 0 hts gX13_example_J0_length_8abf5 rfl rfl rfl (by decide +kernel) ⟨Nat.le_of_ble_eq_true rfl, Nat.le_of_ble_eq_true rfl⟩) ⟨PX_blind (GS_go (lnS 2) as_5), GS_recv hT_5 hS, PX_call (GS_go (lnS 2) as_5) hK hG hS hP hD (A_all hD hA hS.1) hT_5⟩ rfl rfl hl.1 rfl (lv_room (Nat.le_of_ble_eq_true rfl)) dX13_example_43 ⟨Nat.le_of_ble_eq_true rfl, Nat.le_of_ble_eq_true rfl⟩) hS (fun q _ h => (A_all hD hA hS.1) q h) (A_all hD hA hS.1) (fun r_7 u_7 t_7 H_7 L_7 ht_7 hvm_7 hw_7 hB_7 hz_7 hk_7 hS => ?_)
            replace hB_7 := (show va_P (dC, dI) vwCl [((b 0), .inr (15, [.int (cd (rngb x 0 2) true true), .ref (b 1), .ref (b 2), .int 0, .ref (b 3), .ref (b 4), .ref (b 5), .null, .ref (b 6), .int (nI 0), .int 0, .int 0, .int 0, .int 0])), ((b 6), .inl (g 0, 160, .inl fx))] t_7.heap from hB_7)
            rw [ht_7] at hB_7
            have hP := hB_7
            obtain rfl : r_7 = nI (lnS 2) := hw_7
            refine lv_icmp_ge (tgt := 66) hx hb dX13_example_46 (by decide) (fun c_8 => ?_) (fun c_8 => ?_)
            · have h9 := (nI_leI (by omega) (by omega)).mp c_8
              have hiM : i = (lnS 2) := by omega
              refine lv_aload_n hx hb dX13_example_66 rfl (lv_at hl 1 rfl) ?_
              refine lv_aload_n hx hb dX13_example_67 rfl (lv_at hl 3 rfl) ?_
              refine va_calli (va_runV (As := []) (rest := [.ref (b 0)]) ⟨hx, hb, hml, hown, hts⟩ (c_J0_length_8abf5 l dC dI g [((b 0), .inr (15, [.int (cd (rngb x 0 2) true true), .ref (b 1), .ref (b 2), .int 0, .ref (b 3), .ref (b 4), .ref (b 5), .null, .ref (b 6), .int (nI 0), .int 0, .int 0, .int 0, .int 0])), ((b 6), .inl (g 0, 160, .inl fx))] (lnS 2) as_5  hnb.1 H_7.size) (cwV 0 hts gX13_example_J0_length_8abf5 rfl rfl rfl (by decide +kernel) ⟨Nat.le_of_ble_eq_true rfl, Nat.le_of_ble_eq_true rfl⟩) ⟨PX_blind (GS_go (lnS 2) as_5), GS_recv hT_5 hS, PX_call (GS_go (lnS 2) as_5) hK hG hS hP hD (A_all hD hA hS.1) hT_5⟩ rfl rfl hl.1 rfl (lv_room (Nat.le_of_ble_eq_true rfl)) dX13_example_68 ⟨Nat.le_of_ble_eq_true rfl, Nat.le_of_ble_eq_true rfl⟩) hS (fun q _ h => (A_all hD hA hS.1) q h) (A_all hD hA hS.1) (fun r_9 u_9 t_9 H_9 L_9 ht_9 hvm_9 hw_9 hB_9 hz_9 hk_9 hS => ?_)
              replace hB_9 := (show va_P (dC, dI) vwCl [((b 0), .inr (15, [.int (cd (rngb x 0 2) true true), .ref (b 1), .ref (b 2), .int 0, .ref (b 3), .ref (b 4), .ref (b 5), .null, .ref (b 6), .int (nI 0), .int 0, .int 0, .int 0, .int 0])), ((b 6), .inl (g 0, 160, .inl fx))] t_9.heap from hB_9)
              rw [ht_9] at hB_9
              have hP := hB_9
              obtain rfl : r_9 = nI (lnS 2) := hw_9
              refine va_put (D := (dC, dI)) (ci := 15) (v := .int (nI (lnS 2))) (ty := .int) (C := RX13) (T := TX13) (N := 14) hx hb hts hiX13 tyX13 tyX13_ok nmX13 hown hK hP hD hS 0 rfl rfl 9 (by decide) hf218 (fun _ h9 => h9) rfl (by decide +kernel) rfl rfl (Nat.le_of_ble_eq_true rfl) dX13_example_71 (fun H_10 L_11 hP hD hS => ?_)
              have hP : va_P (dC, dI) vwCl [((b 0), .inr (15, [.int (cd (rngb x 0 2) true true), .ref (b 1), .ref (b 2), .int 0, .ref (b 3), .ref (b 4), .ref (b 5), .null, .ref (b 6), .int (nI (lnS 2)), .int 0, .int 0, .int 0, .int 0])), ((b 6), .inl (g 0, 160, .inl fx))] H_10 := hP
              have hD : va_D A [((b 0), .inr (15, [.int (cd (rngb x 0 2) true true), .ref (b 1), .ref (b 2), .int 0, .ref (b 3), .ref (b 4), .ref (b 5), .null, .ref (b 6), .int (nI (lnS 2)), .int 0, .int 0, .int 0, .int 0])), ((b 6), .inl (g 0, 160, .inl fx))] := hD
              refine lv_aload_n hx hb dX13_example_74 rfl (lv_at hl 1 rfl) ?_
              refine va_get (D := (dC, dI)) (ci := 15) (v := .int (nI (lnS 2))) (C := RX13) (T := TX13) (N := 14) hx hb hts hiX13 hown hK hP 0 rfl rfl 9 (by decide) hf218 (fun _ h9 => h9) rfl dX13_example_75 ?_
              subst hQ
              have hcd : (cd (rngb x 0 2) true true) = (cd (rngb x 0 2) true true) := rfl
              have hP8 := hP.sub (ws' := [((b 0), .inr (15, [.int (cd (rngb x 0 2) true true), .ref (b 1), .ref (b 2), .int 0, .ref (b 3), .ref (b 4), .ref (b 5), .null, .ref (b 6), .int (nI (lnS 2)), .int 0, .int 0, .int 0, .int 0]))]) [0] rfl
              rw [hcd] at hP8
              exact W.iret (v := (nI (lnS 2))) hx hb hr (fun t ht hW => ⟨⟨(nI (lnS 2)), (), rfl, (fun _ => (exl_n c_5 c_6).symm), ⟨[.ref (b 1), .ref (b 2), .int 0, .ref (b 3), .ref (b 4), .ref (b 5), .null, .ref (b 6), .int (nI (lnS 2)), .int 0, .int 0, .int 0, .int 0], P_at ht hP8⟩⟩, hS.F ht⟩) hS.2.2 dX13_example_78
            · have hlt : i < (lnS 2) := by
                rcases Nat.lt_or_ge i (lnS 2) with q | q
                · exact q
                · exact absurd (nI_le q (by omega)) c_8
              refine lv_aload_n hx hb dX13_example_49 rfl (lv_at hl 1 rfl) ?_
              refine va_get (D := (dC, dI)) (ci := 15) (v := .ref (b 6)) (C := RX13) (T := TX13) (N := 14) hx hb hts hiX13 hown hK hP 0 rfl rfl 8 (by decide) hf38 (fun _ h9 => h9) rfl dX13_example_50 ?_
              refine lv_iload_n hx hb dX13_example_53 rfl (lv_at hl 0 rfl) ?_
              refine lv_aload_n hx hb dX13_example_54 rfl (lv_at hl 3 rfl) ?_
              refine lv_iload_n hx hb dX13_example_55 rfl (lv_at hl 0 rfl) ?_
              refine va_calli (va_runV (As := [.int (nI i)]) (rest := [.int (nI i), .ref (b 6)]) ⟨hx, hb, hml, hown, hts⟩ (c_J0_charAt_5068e l dC dI g [((b 0), .inr (15, [.int (cd (rngb x 0 2) true true), .ref (b 1), .ref (b 2), .int 0, .ref (b 3), .ref (b 4), .ref (b 5), .null, .ref (b 6), .int (nI 0), .int 0, .int 0, .int 0, .int 0])), ((b 6), .inl (g 0, 160, .inl fx))] (lnS 2) as_5 i  hlt hnb.1 H_7.size) (cwV 1 hts gX13_example_J0_charAt_5068e rfl rfl rfl (by decide +kernel) ⟨Nat.le_of_ble_eq_true rfl, Nat.le_of_ble_eq_true rfl⟩) ⟨PX_blind (GS_go (lnS 2) as_5), GS_recv hT_5 hS, PX_call (GS_go (lnS 2) as_5) hK hG hS hP hD (A_all hD hA hS.1) hT_5⟩ rfl rfl hl.1 rfl (lv_room (Nat.le_of_ble_eq_true rfl)) dX13_example_56 ⟨Nat.le_of_ble_eq_true rfl, Nat.le_of_ble_eq_true rfl⟩) hS (fun q _ h => (A_all hD hA hS.1) q h) (A_all hD hA hS.1) (fun r_12 u_12 t_12 H_12 L_12 ht_12 hvm_12 hw_12 hB_12 hz_12 hk_12 hS => ?_)
              replace hB_12 := (show va_P (dC, dI) vwCl [((b 0), .inr (15, [.int (cd (rngb x 0 2) true true), .ref (b 1), .ref (b 2), .int 0, .ref (b 3), .ref (b 4), .ref (b 5), .null, .ref (b 6), .int (nI 0), .int 0, .int 0, .int 0, .int 0])), ((b 6), .inl (g 0, 160, .inl fx))] t_12.heap from hB_12)
              rw [ht_12] at hB_12
              have hP := hB_12
              refine va_iast hx hb hK hP hD hS 1 0 rfl rfl (vp_in_nI (by omega) (by decide)) dX13_example_59 (fun H_13 L_14 hP hD hS => ?_)
              have hP : va_P (dC, dI) vwCl [((b 0), .inr (15, [.int (cd (rngb x 0 2) true true), .ref (b 1), .ref (b 2), .int 0, .ref (b 3), .ref (b 4), .ref (b 5), .null, .ref (b 6), .int (nI 0), .int 0, .int 0, .int 0, .int 0])), ((b 6), .inl (g 0, 160, .inl (upd fx (nI i).toNatClampNeg r_12)))] H_13 := hP
              have hD : va_D A [((b 0), .inr (15, [.int (cd (rngb x 0 2) true true), .ref (b 1), .ref (b 2), .int 0, .ref (b 3), .ref (b 4), .ref (b 5), .null, .ref (b 6), .int (nI 0), .int 0, .int 0, .int 0, .int 0])), ((b 6), .inl (g 0, 160, .inl (upd fx (nI i).toNatClampNeg r_12)))] := hD
              refine lv_iinc (v := (nI (i + 1))) (lv' := [(3, .int (nI (i + 1))), (0, .ref (b 0)), (1, .int x), (2, .ref as_5)]) hx hb dX13_example_60 hl (k := 0) rfl (nI_1 _) (by decide) rfl (fun ls hl => ?_)
              refine lv_goto (tgt := 41) hx hb dX13_example_63 (by decide) ?_
              exact ih (i + 1) (by omega) (by omega) (upd fx (nI i).toNatClampNeg r_12) _ _ (hP.sub [0, 1] rfl) (hD.sub [0, 1] (by decide) rfl) hS _ (lv_sub hl [0, 1, 2, 3] rfl)
        exact LOOP41 ((lnS 2) + 1) 0 (Nat.zero_le _) (by omega) (fun _ => 0) _ _ (hP.sub [0, 1] rfl) (hD.sub [0, 1] (by decide) rfl) hS _ (lv_sub hl [0, 2, 3, 1] rfl)
      · obtain ⟨as_4, hR_4, hT_4⟩ := GS_of (sx_4 hG)
        refine va_ldcS hx hb hown hR_4 dX13_example_31 ?_
        refine lv_goto (tgt := 38) hx hb dX13_example_33 (by decide) ?_
        refine lv_astore_n (lv' := [(2, .ref as_4), (0, .ref (b 0)), (1, .int x)]) hx hb dX13_example_38 rfl hl (by decide) rfl (fun ls hl => ?_)
        refine lv_iconst (v := 0) hx hb dX13_example_39 (by decide) ?_
        refine lv_istore_n (lv' := [(3, .int 0), (2, .ref as_4), (0, .ref (b 0)), (1, .int x)]) hx hb dX13_example_40 rfl hl (by decide) rfl (fun ls hl => ?_)
        have hnb := lnS_le 1 (by decide)
        refine W_abs (fun Q hQ => ?_)
        have LOOP41 : ∀ (n i : Nat), i ≤ (lnS 1) → (lnS 1) < i + n → ∀ (fx : Nat → Int32) (H : Heap) (locs : List Loc), va_P (dC, dI) vwCl [((b 0), .inr (15, [.int (cd (rngb x 0 2) true true), .ref (b 1), .ref (b 2), .int 0, .ref (b 3), .ref (b 4), .ref (b 5), .null, .ref (b 6), .int (nI 0), .int 0, .int 0, .int 0, .int 0])), ((b 6), .inl (g 0, 160, .inl fx))] H → va_D A [((b 0), .inr (15, [.int (cd (rngb x 0 2) true true), .ref (b 1), .ref (b 2), .int 0, .ref (b 3), .ref (b 4), .ref (b 5), .null, .ref (b 6), .int (nI 0), .int 0, .int 0, .int 0, .int 0])), ((b 6), .inl (g 0, 160, .inl fx))] → va_S A s.heap H locs → ∀ (ls : Array Slot), lv_has ls 4 [(3, .int (nI i)), (0, .ref (b 0)), (1, .int x), (2, .ref as_4)] → W p l e (headSpec wsX13_example ({ frames := 4, cells := 0, slots := 0, locals := 85 })).room s m ([.ref (b 0), .int x] : List Value).toArray below meth c H locs 0 0 Q (F0 m 41 ls []) := by
          intro n
          induction n with
          | zero =>
            intro i h1 h2
            exact absurd h2 (by omega)
          | succ n ih =>
            intro i hi hin fx H locs hP hD hS ls hl
            refine lv_iload_n hx hb dX13_example_41 rfl (lv_at hl 0 rfl) ?_
            refine lv_aload_n hx hb dX13_example_42 rfl (lv_at hl 3 rfl) ?_
            refine va_calli (va_runV (As := []) (rest := [.int (nI i)]) ⟨hx, hb, hml, hown, hts⟩ (c_J0_length_8abf5 l dC dI g [((b 0), .inr (15, [.int (cd (rngb x 0 2) true true), .ref (b 1), .ref (b 2), .int 0, .ref (b 3), .ref (b 4), .ref (b 5), .null, .ref (b 6), .int (nI 0), .int 0, .int 0, .int 0, .int 0])), ((b 6), .inl (g 0, 160, .inl fx))] (lnS 1) as_4  hnb.1 H.size) (cwV 0 hts gX13_example_J0_length_8abf5 rfl rfl rfl (by decide +kernel) ⟨Nat.le_of_ble_eq_true rfl, Nat.le_of_ble_eq_true rfl⟩) ⟨PX_blind (GS_go (lnS 1) as_4), GS_recv hT_4 hS, PX_call (GS_go (lnS 1) as_4) hK hG hS hP hD (A_all hD hA hS.1) hT_4⟩ rfl rfl hl.1 rfl (lv_room (Nat.le_of_ble_eq_true rfl)) dX13_example_43 ⟨Nat.le_of_ble_eq_true rfl, Nat.le_of_ble_eq_true rfl⟩) hS (fun q _ h => (A_all hD hA hS.1) q h) (A_all hD hA hS.1) (fun r_15 u_15 t_15 H_15 L_15 ht_15 hvm_15 hw_15 hB_15 hz_15 hk_15 hS => ?_)
            replace hB_15 := (show va_P (dC, dI) vwCl [((b 0), .inr (15, [.int (cd (rngb x 0 2) true true), .ref (b 1), .ref (b 2), .int 0, .ref (b 3), .ref (b 4), .ref (b 5), .null, .ref (b 6), .int (nI 0), .int 0, .int 0, .int 0, .int 0])), ((b 6), .inl (g 0, 160, .inl fx))] t_15.heap from hB_15)
            rw [ht_15] at hB_15
            have hP := hB_15
            obtain rfl : r_15 = nI (lnS 1) := hw_15
            refine lv_icmp_ge (tgt := 66) hx hb dX13_example_46 (by decide) (fun c_16 => ?_) (fun c_16 => ?_)
            · have h9 := (nI_leI (by omega) (by omega)).mp c_16
              have hiM : i = (lnS 1) := by omega
              refine lv_aload_n hx hb dX13_example_66 rfl (lv_at hl 1 rfl) ?_
              refine lv_aload_n hx hb dX13_example_67 rfl (lv_at hl 3 rfl) ?_
              refine va_calli (va_runV (As := []) (rest := [.ref (b 0)]) ⟨hx, hb, hml, hown, hts⟩ (c_J0_length_8abf5 l dC dI g [((b 0), .inr (15, [.int (cd (rngb x 0 2) true true), .ref (b 1), .ref (b 2), .int 0, .ref (b 3), .ref (b 4), .ref (b 5), .null, .ref (b 6), .int (nI 0), .int 0, .int 0, .int 0, .int 0])), ((b 6), .inl (g 0, 160, .inl fx))] (lnS 1) as_4  hnb.1 H_15.size) (cwV 0 hts gX13_example_J0_length_8abf5 rfl rfl rfl (by decide +kernel) ⟨Nat.le_of_ble_eq_true rfl, Nat.le_of_ble_eq_true rfl⟩) ⟨PX_blind (GS_go (lnS 1) as_4), GS_recv hT_4 hS, PX_call (GS_go (lnS 1) as_4) hK hG hS hP hD (A_all hD hA hS.1) hT_4⟩ rfl rfl hl.1 rfl (lv_room (Nat.le_of_ble_eq_true rfl)) dX13_example_68 ⟨Nat.le_of_ble_eq_true rfl, Nat.le_of_ble_eq_true rfl⟩) hS (fun q _ h => (A_all hD hA hS.1) q h) (A_all hD hA hS.1) (fun r_17 u_17 t_17 H_17 L_17 ht_17 hvm_17 hw_17 hB_17 hz_17 hk_17 hS => ?_)
              replace hB_17 := (show va_P (dC, dI) vwCl [((b 0), .inr (15, [.int (cd (rngb x 0 2) true true), .ref (b 1), .ref (b 2), .int 0, .ref (b 3), .ref (b 4), .ref (b 5), .null, .ref (b 6), .int (nI 0), .int 0, .int 0, .int 0, .int 0])), ((b 6), .inl (g 0, 160, .inl fx))] t_17.heap from hB_17)
              rw [ht_17] at hB_17
              have hP := hB_17
              obtain rfl : r_17 = nI (lnS 1) := hw_17
              refine va_put (D := (dC, dI)) (ci := 15) (v := .int (nI (lnS 1))) (ty := .int) (C := RX13) (T := TX13) (N := 14) hx hb hts hiX13 tyX13 tyX13_ok nmX13 hown hK hP hD hS 0 rfl rfl 9 (by decide) hf218 (fun _ h9 => h9) rfl (by decide +kernel) rfl rfl (Nat.le_of_ble_eq_true rfl) dX13_example_71 (fun H_18 L_19 hP hD hS => ?_)
              have hP : va_P (dC, dI) vwCl [((b 0), .inr (15, [.int (cd (rngb x 0 2) true true), .ref (b 1), .ref (b 2), .int 0, .ref (b 3), .ref (b 4), .ref (b 5), .null, .ref (b 6), .int (nI (lnS 1)), .int 0, .int 0, .int 0, .int 0])), ((b 6), .inl (g 0, 160, .inl fx))] H_18 := hP
              have hD : va_D A [((b 0), .inr (15, [.int (cd (rngb x 0 2) true true), .ref (b 1), .ref (b 2), .int 0, .ref (b 3), .ref (b 4), .ref (b 5), .null, .ref (b 6), .int (nI (lnS 1)), .int 0, .int 0, .int 0, .int 0])), ((b 6), .inl (g 0, 160, .inl fx))] := hD
              refine lv_aload_n hx hb dX13_example_74 rfl (lv_at hl 1 rfl) ?_
              refine va_get (D := (dC, dI)) (ci := 15) (v := .int (nI (lnS 1))) (C := RX13) (T := TX13) (N := 14) hx hb hts hiX13 hown hK hP 0 rfl rfl 9 (by decide) hf218 (fun _ h9 => h9) rfl dX13_example_75 ?_
              subst hQ
              have hcd : (cd (rngb x 0 2) true true) = (cd (rngb x 0 2) true true) := rfl
              have hP8 := hP.sub (ws' := [((b 0), .inr (15, [.int (cd (rngb x 0 2) true true), .ref (b 1), .ref (b 2), .int 0, .ref (b 3), .ref (b 4), .ref (b 5), .null, .ref (b 6), .int (nI (lnS 1)), .int 0, .int 0, .int 0, .int 0]))]) [0] rfl
              rw [hcd] at hP8
              exact W.iret (v := (nI (lnS 1))) hx hb hr (fun t ht hW => ⟨⟨(nI (lnS 1)), (), rfl, (fun _ => by rw [c_6]; rfl), ⟨[.ref (b 1), .ref (b 2), .int 0, .ref (b 3), .ref (b 4), .ref (b 5), .null, .ref (b 6), .int (nI (lnS 1)), .int 0, .int 0, .int 0, .int 0], P_at ht hP8⟩⟩, hS.F ht⟩) hS.2.2 dX13_example_78
            · have hlt : i < (lnS 1) := by
                rcases Nat.lt_or_ge i (lnS 1) with q | q
                · exact q
                · exact absurd (nI_le q (by omega)) c_16
              refine lv_aload_n hx hb dX13_example_49 rfl (lv_at hl 1 rfl) ?_
              refine va_get (D := (dC, dI)) (ci := 15) (v := .ref (b 6)) (C := RX13) (T := TX13) (N := 14) hx hb hts hiX13 hown hK hP 0 rfl rfl 8 (by decide) hf38 (fun _ h9 => h9) rfl dX13_example_50 ?_
              refine lv_iload_n hx hb dX13_example_53 rfl (lv_at hl 0 rfl) ?_
              refine lv_aload_n hx hb dX13_example_54 rfl (lv_at hl 3 rfl) ?_
              refine lv_iload_n hx hb dX13_example_55 rfl (lv_at hl 0 rfl) ?_
              refine va_calli (va_runV (As := [.int (nI i)]) (rest := [.int (nI i), .ref (b 6)]) ⟨hx, hb, hml, hown, hts⟩ (c_J0_charAt_5068e l dC dI g [((b 0), .inr (15, [.int (cd (rngb x 0 2) true true), .ref (b 1), .ref (b 2), .int 0, .ref (b 3), .ref (b 4), .ref (b 5), .null, .ref (b 6), .int (nI 0), .int 0, .int 0, .int 0, .int 0])), ((b 6), .inl (g 0, 160, .inl fx))] (lnS 1) as_4 i  hlt hnb.1 H_15.size) (cwV 1 hts gX13_example_J0_charAt_5068e rfl rfl rfl (by decide +kernel) ⟨Nat.le_of_ble_eq_true rfl, Nat.le_of_ble_eq_true rfl⟩) ⟨PX_blind (GS_go (lnS 1) as_4), GS_recv hT_4 hS, PX_call (GS_go (lnS 1) as_4) hK hG hS hP hD (A_all hD hA hS.1) hT_4⟩ rfl rfl hl.1 rfl (lv_room (Nat.le_of_ble_eq_true rfl)) dX13_example_56 ⟨Nat.le_of_ble_eq_true rfl, Nat.le_of_ble_eq_true rfl⟩) hS (fun q _ h => (A_all hD hA hS.1) q h) (A_all hD hA hS.1) (fun r_20 u_20 t_20 H_20 L_20 ht_20 hvm_20 hw_20 hB_20 hz_20 hk_20 hS => ?_)
              replace hB_20 := (show va_P (dC, dI) vwCl [((b 0), .inr (15, [.int (cd (rngb x 0 2) true true), .ref (b 1), .ref (b 2), .int 0, .ref (b 3), .ref (b 4), .ref (b 5), .null, .ref (b 6), .int (nI 0), .int 0, .int 0, .int 0, .int 0])), ((b 6), .inl (g 0, 160, .inl fx))] t_20.heap from hB_20)
              rw [ht_20] at hB_20
              have hP := hB_20
              refine va_iast hx hb hK hP hD hS 1 0 rfl rfl (vp_in_nI (by omega) (by decide)) dX13_example_59 (fun H_21 L_22 hP hD hS => ?_)
              have hP : va_P (dC, dI) vwCl [((b 0), .inr (15, [.int (cd (rngb x 0 2) true true), .ref (b 1), .ref (b 2), .int 0, .ref (b 3), .ref (b 4), .ref (b 5), .null, .ref (b 6), .int (nI 0), .int 0, .int 0, .int 0, .int 0])), ((b 6), .inl (g 0, 160, .inl (upd fx (nI i).toNatClampNeg r_20)))] H_21 := hP
              have hD : va_D A [((b 0), .inr (15, [.int (cd (rngb x 0 2) true true), .ref (b 1), .ref (b 2), .int 0, .ref (b 3), .ref (b 4), .ref (b 5), .null, .ref (b 6), .int (nI 0), .int 0, .int 0, .int 0, .int 0])), ((b 6), .inl (g 0, 160, .inl (upd fx (nI i).toNatClampNeg r_20)))] := hD
              refine lv_iinc (v := (nI (i + 1))) (lv' := [(3, .int (nI (i + 1))), (0, .ref (b 0)), (1, .int x), (2, .ref as_4)]) hx hb dX13_example_60 hl (k := 0) rfl (nI_1 _) (by decide) rfl (fun ls hl => ?_)
              refine lv_goto (tgt := 41) hx hb dX13_example_63 (by decide) ?_
              exact ih (i + 1) (by omega) (by omega) (upd fx (nI i).toNatClampNeg r_20) _ _ (hP.sub [0, 1] rfl) (hD.sub [0, 1] (by decide) rfl) hS _ (lv_sub hl [0, 1, 2, 3] rfl)
        exact LOOP41 ((lnS 1) + 1) 0 (Nat.zero_le _) (by omega) (fun _ => 0) _ _ (hP.sub [0, 1] rfl) (hD.sub [0, 1] (by decide) rfl) hS _ (lv_sub hl [0, 2, 3, 1] rfl)
    · obtain ⟨as_3, hR_3, hT_3⟩ := GS_of (sx_3 hG)
      refine va_ldcS hx hb hown hR_3 dX13_example_21 ?_
      refine lv_goto (tgt := 38) hx hb dX13_example_23 (by decide) ?_
      refine lv_astore_n (lv' := [(2, .ref as_3), (0, .ref (b 0)), (1, .int x)]) hx hb dX13_example_38 rfl hl (by decide) rfl (fun ls hl => ?_)
      refine lv_iconst (v := 0) hx hb dX13_example_39 (by decide) ?_
      refine lv_istore_n (lv' := [(3, .int 0), (2, .ref as_3), (0, .ref (b 0)), (1, .int x)]) hx hb dX13_example_40 rfl hl (by decide) rfl (fun ls hl => ?_)
      have hnb := lnS_le 0 (by decide)
      refine W_abs (fun Q hQ => ?_)
      have LOOP41 : ∀ (n i : Nat), i ≤ (lnS 0) → (lnS 0) < i + n → ∀ (fx : Nat → Int32) (H : Heap) (locs : List Loc), va_P (dC, dI) vwCl [((b 0), .inr (15, [.int (cd (rngb x 0 2) true true), .ref (b 1), .ref (b 2), .int 0, .ref (b 3), .ref (b 4), .ref (b 5), .null, .ref (b 6), .int (nI 0), .int 0, .int 0, .int 0, .int 0])), ((b 6), .inl (g 0, 160, .inl fx))] H → va_D A [((b 0), .inr (15, [.int (cd (rngb x 0 2) true true), .ref (b 1), .ref (b 2), .int 0, .ref (b 3), .ref (b 4), .ref (b 5), .null, .ref (b 6), .int (nI 0), .int 0, .int 0, .int 0, .int 0])), ((b 6), .inl (g 0, 160, .inl fx))] → va_S A s.heap H locs → ∀ (ls : Array Slot), lv_has ls 4 [(3, .int (nI i)), (0, .ref (b 0)), (1, .int x), (2, .ref as_3)] → W p l e (headSpec wsX13_example ({ frames := 4, cells := 0, slots := 0, locals := 85 })).room s m ([.ref (b 0), .int x] : List Value).toArray below meth c H locs 0 0 Q (F0 m 41 ls []) := by
        intro n
        induction n with
        | zero =>
          intro i h1 h2
          exact absurd h2 (by omega)
        | succ n ih =>
          intro i hi hin fx H locs hP hD hS ls hl
          refine lv_iload_n hx hb dX13_example_41 rfl (lv_at hl 0 rfl) ?_
          refine lv_aload_n hx hb dX13_example_42 rfl (lv_at hl 3 rfl) ?_
          refine va_calli (va_runV (As := []) (rest := [.int (nI i)]) ⟨hx, hb, hml, hown, hts⟩ (c_J0_length_8abf5 l dC dI g [((b 0), .inr (15, [.int (cd (rngb x 0 2) true true), .ref (b 1), .ref (b 2), .int 0, .ref (b 3), .ref (b 4), .ref (b 5), .null, .ref (b 6), .int (nI 0), .int 0, .int 0, .int 0, .int 0])), ((b 6), .inl (g 0, 160, .inl fx))] (lnS 0) as_3  hnb.1 H.size) (cwV 0 hts gX13_example_J0_length_8abf5 rfl rfl rfl (by decide +kernel) ⟨Nat.le_of_ble_eq_true rfl, Nat.le_of_ble_eq_true rfl⟩) ⟨PX_blind (GS_go (lnS 0) as_3), GS_recv hT_3 hS, PX_call (GS_go (lnS 0) as_3) hK hG hS hP hD (A_all hD hA hS.1) hT_3⟩ rfl rfl hl.1 rfl (lv_room (Nat.le_of_ble_eq_true rfl)) dX13_example_43 ⟨Nat.le_of_ble_eq_true rfl, Nat.le_of_ble_eq_true rfl⟩) hS (fun q _ h => (A_all hD hA hS.1) q h) (A_all hD hA hS.1) (fun r_23 u_23 t_23 H_23 L_23 ht_23 hvm_23 hw_23 hB_23 hz_23 hk_23 hS => ?_)
          replace hB_23 := (show va_P (dC, dI) vwCl [((b 0), .inr (15, [.int (cd (rngb x 0 2) true true), .ref (b 1), .ref (b 2), .int 0, .ref (b 3), .ref (b 4), .ref (b 5), .null, .ref (b 6), .int (nI 0), .int 0, .int 0, .int 0, .int 0])), ((b 6), .inl (g 0, 160, .inl fx))] t_23.heap from hB_23)
          rw [ht_23] at hB_23
          have hP := hB_23
          obtain rfl : r_23 = nI (lnS 0) := hw_23
          refine lv_icmp_ge (tgt := 66) hx hb dX13_example_46 (by decide) (fun c_24 => ?_) (fun c_24 => ?_)
          · have h9 := (nI_leI (by omega) (by omega)).mp c_24
            have hiM : i = (lnS 0) := by omega
            refine lv_aload_n hx hb dX13_example_66 rfl (lv_at hl 1 rfl) ?_
            refine lv_aload_n hx hb dX13_example_67 rfl (lv_at hl 3 rfl) ?_
            refine va_calli (va_runV (As := []) (rest := [.ref (b 0)]) ⟨hx, hb, hml, hown, hts⟩ (c_J0_length_8abf5 l dC dI g [((b 0), .inr (15, [.int (cd (rngb x 0 2) true true), .ref (b 1), .ref (b 2), .int 0, .ref (b 3), .ref (b 4), .ref (b 5), .null, .ref (b 6), .int (nI 0), .int 0, .int 0, .int 0, .int 0])), ((b 6), .inl (g 0, 160, .inl fx))] (lnS 0) as_3  hnb.1 H_23.size) (cwV 0 hts gX13_example_J0_length_8abf5 rfl rfl rfl (by decide +kernel) ⟨Nat.le_of_ble_eq_true rfl, Nat.le_of_ble_eq_true rfl⟩) ⟨PX_blind (GS_go (lnS 0) as_3), GS_recv hT_3 hS, PX_call (GS_go (lnS 0) as_3) hK hG hS hP hD (A_all hD hA hS.1) hT_3⟩ rfl rfl hl.1 rfl (lv_room (Nat.le_of_ble_eq_true rfl)) dX13_example_68 ⟨Nat.le_of_ble_eq_true rfl, Nat.le_of_ble_eq_true rfl⟩) hS (fun q _ h => (A_all hD hA hS.1) q h) (A_all hD hA hS.1) (fun r_25 u_25 t_25 H_25 L_25 ht_25 hvm_25 hw_25 hB_25 hz_25 hk_25 hS => ?_)
            replace hB_25 := (show va_P (dC, dI) vwCl [((b 0), .inr (15, [.int (cd (rngb x 0 2) true true), .ref (b 1), .ref (b 2), .int 0, .ref (b 3), .ref (b 4), .ref (b 5), .null, .ref (b 6), .int (nI 0), .int 0, .int 0, .int 0, .int 0])), ((b 6), .inl (g 0, 160, .inl fx))] t_25.heap from hB_25)
            rw [ht_25] at hB_25
            have hP := hB_25
            obtain rfl : r_25 = nI (lnS 0) := hw_25
            refine va_put (D := (dC, dI)) (ci := 15) (v := .int (nI (lnS 0))) (ty := .int) (C := RX13) (T := TX13) (N := 14) hx hb hts hiX13 tyX13 tyX13_ok nmX13 hown hK hP hD hS 0 rfl rfl 9 (by decide) hf218 (fun _ h9 => h9) rfl (by decide +kernel) rfl rfl (Nat.le_of_ble_eq_true rfl) dX13_example_71 (fun H_26 L_27 hP hD hS => ?_)
            have hP : va_P (dC, dI) vwCl [((b 0), .inr (15, [.int (cd (rngb x 0 2) true true), .ref (b 1), .ref (b 2), .int 0, .ref (b 3), .ref (b 4), .ref (b 5), .null, .ref (b 6), .int (nI (lnS 0)), .int 0, .int 0, .int 0, .int 0])), ((b 6), .inl (g 0, 160, .inl fx))] H_26 := hP
            have hD : va_D A [((b 0), .inr (15, [.int (cd (rngb x 0 2) true true), .ref (b 1), .ref (b 2), .int 0, .ref (b 3), .ref (b 4), .ref (b 5), .null, .ref (b 6), .int (nI (lnS 0)), .int 0, .int 0, .int 0, .int 0])), ((b 6), .inl (g 0, 160, .inl fx))] := hD
            refine lv_aload_n hx hb dX13_example_74 rfl (lv_at hl 1 rfl) ?_
            refine va_get (D := (dC, dI)) (ci := 15) (v := .int (nI (lnS 0))) (C := RX13) (T := TX13) (N := 14) hx hb hts hiX13 hown hK hP 0 rfl rfl 9 (by decide) hf218 (fun _ h9 => h9) rfl dX13_example_75 ?_
            subst hQ
            have hcd : (cd (rngb x 0 2) true true) = (cd (rngb x 0 2) true true) := rfl
            have hP8 := hP.sub (ws' := [((b 0), .inr (15, [.int (cd (rngb x 0 2) true true), .ref (b 1), .ref (b 2), .int 0, .ref (b 3), .ref (b 4), .ref (b 5), .null, .ref (b 6), .int (nI (lnS 0)), .int 0, .int 0, .int 0, .int 0]))]) [0] rfl
            rw [hcd] at hP8
            exact W.iret (v := (nI (lnS 0))) hx hb hr (fun t ht hW => ⟨⟨(nI (lnS 0)), (), rfl, (fun _ => by rw [c_5]; rfl), ⟨[.ref (b 1), .ref (b 2), .int 0, .ref (b 3), .ref (b 4), .ref (b 5), .null, .ref (b 6), .int (nI (lnS 0)), .int 0, .int 0, .int 0, .int 0], P_at ht hP8⟩⟩, hS.F ht⟩) hS.2.2 dX13_example_78
          · have hlt : i < (lnS 0) := by
              rcases Nat.lt_or_ge i (lnS 0) with q | q
              · exact q
              · exact absurd (nI_le q (by omega)) c_24
            refine lv_aload_n hx hb dX13_example_49 rfl (lv_at hl 1 rfl) ?_
            refine va_get (D := (dC, dI)) (ci := 15) (v := .ref (b 6)) (C := RX13) (T := TX13) (N := 14) hx hb hts hiX13 hown hK hP 0 rfl rfl 8 (by decide) hf38 (fun _ h9 => h9) rfl dX13_example_50 ?_
            refine lv_iload_n hx hb dX13_example_53 rfl (lv_at hl 0 rfl) ?_
            refine lv_aload_n hx hb dX13_example_54 rfl (lv_at hl 3 rfl) ?_
            refine lv_iload_n hx hb dX13_example_55 rfl (lv_at hl 0 rfl) ?_
            refine va_calli (va_runV (As := [.int (nI i)]) (rest := [.int (nI i), .ref (b 6)]) ⟨hx, hb, hml, hown, hts⟩ (c_J0_charAt_5068e l dC dI g [((b 0), .inr (15, [.int (cd (rngb x 0 2) true true), .ref (b 1), .ref (b 2), .int 0, .ref (b 3), .ref (b 4), .ref (b 5), .null, .ref (b 6), .int (nI 0), .int 0, .int 0, .int 0, .int 0])), ((b 6), .inl (g 0, 160, .inl fx))] (lnS 0) as_3 i  hlt hnb.1 H_23.size) (cwV 1 hts gX13_example_J0_charAt_5068e rfl rfl rfl (by decide +kernel) ⟨Nat.le_of_ble_eq_true rfl, Nat.le_of_ble_eq_true rfl⟩) ⟨PX_blind (GS_go (lnS 0) as_3), GS_recv hT_3 hS, PX_call (GS_go (lnS 0) as_3) hK hG hS hP hD (A_all hD hA hS.1) hT_3⟩ rfl rfl hl.1 rfl (lv_room (Nat.le_of_ble_eq_true rfl)) dX13_example_56 ⟨Nat.le_of_ble_eq_true rfl, Nat.le_of_ble_eq_true rfl⟩) hS (fun q _ h => (A_all hD hA hS.1) q h) (A_all hD hA hS.1) (fun r_28 u_28 t_28 H_28 L_28 ht_28 hvm_28 hw_28 hB_28 hz_28 hk_28 hS => ?_)
            replace hB_28 := (show va_P (dC, dI) vwCl [((b 0), .inr (15, [.int (cd (rngb x 0 2) true true), .ref (b 1), .ref (b 2), .int 0, .ref (b 3), .ref (b 4), .ref (b 5), .null, .ref (b 6), .int (nI 0), .int 0, .int 0, .int 0, .int 0])), ((b 6), .inl (g 0, 160, .inl fx))] t_28.heap from hB_28)
            rw [ht_28] at hB_28
            have hP := hB_28
            refine va_iast hx hb hK hP hD hS 1 0 rfl rfl (vp_in_nI (by omega) (by decide)) dX13_example_59 (fun H_29 L_30 hP hD hS => ?_)
            have hP : va_P (dC, dI) vwCl [((b 0), .inr (15, [.int (cd (rngb x 0 2) true true), .ref (b 1), .ref (b 2), .int 0, .ref (b 3), .ref (b 4), .ref (b 5), .null, .ref (b 6), .int (nI 0), .int 0, .int 0, .int 0, .int 0])), ((b 6), .inl (g 0, 160, .inl (upd fx (nI i).toNatClampNeg r_28)))] H_29 := hP
            have hD : va_D A [((b 0), .inr (15, [.int (cd (rngb x 0 2) true true), .ref (b 1), .ref (b 2), .int 0, .ref (b 3), .ref (b 4), .ref (b 5), .null, .ref (b 6), .int (nI 0), .int 0, .int 0, .int 0, .int 0])), ((b 6), .inl (g 0, 160, .inl (upd fx (nI i).toNatClampNeg r_28)))] := hD
            refine lv_iinc (v := (nI (i + 1))) (lv' := [(3, .int (nI (i + 1))), (0, .ref (b 0)), (1, .int x), (2, .ref as_3)]) hx hb dX13_example_60 hl (k := 0) rfl (nI_1 _) (by decide) rfl (fun ls hl => ?_)
            refine lv_goto (tgt := 41) hx hb dX13_example_63 (by decide) ?_
            exact ih (i + 1) (by omega) (by omega) (upd fx (nI i).toNatClampNeg r_28) _ _ (hP.sub [0, 1] rfl) (hD.sub [0, 1] (by decide) rfl) hS _ (lv_sub hl [0, 1, 2, 3] rfl)
      exact LOOP41 ((lnS 0) + 1) 0 (Nat.zero_le _) (by omega) (fun _ => 0) _ _ (hP.sub [0, 1] rfl) (hD.sub [0, 1] (by decide) rfl) hS _ (lv_sub hl [0, 2, 3, 1] rfl)
  · have hB_4 : (rngb x 0 2) = false := b2i_0 c_3
    refine lv_iconst (v := 0) hx hb dX13_example_15 (by decide) ?_
    have hcd : (cd (rngb x 0 2) true true) = (cd (rngb x 0 2) true true) := rfl
    have hP8 := hP.sub (ws' := [((b 0), .inr (15, [.int (cd (rngb x 0 2) true true), .ref (b 1), .ref (b 2), .int 0, .ref (b 3), .ref (b 4), .ref (b 5), .null, .ref (b 6), .int 0, .int 0, .int 0, .int 0, .int 0]))]) [0] rfl
    rw [hcd] at hP8
    exact W.iret (v := 0) hx hb hr (fun t ht hW => ⟨⟨0, (), rfl, (fun h => by first | rfl | (exact absurd (cd_0.mp h) (by simp [hB_4]))), ⟨[.ref (b 1), .ref (b 2), .int 0, .ref (b 3), .ref (b 4), .ref (b 5), .null, .ref (b 6), .int 0, .int 0, .int 0, .int 0, .int 0], P_at ht hP8⟩⟩, hS.F ht⟩) hS.2.2 dX13_example_16
