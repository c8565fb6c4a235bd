theorem dX13_haveRoom_0 : decode cX13_haveRoom 0 = .ok (.aload_n 0, 1) := by decide +kernel
theorem dX13_haveRoom_1 : decode cX13_haveRoom 1 = .ok (.getfield 41, 3) := by decide +kernel
theorem dX13_haveRoom_4 : decode cX13_haveRoom 4 = .ok (.iload_n 2, 1) := by decide +kernel
theorem dX13_haveRoom_5 : decode cX13_haveRoom 5 = .ok (.iadd, 1) := by decide +kernel
theorem dX13_haveRoom_6 : decode cX13_haveRoom 6 = .ok (.sipush 200, 3) := by decide +kernel
theorem dX13_haveRoom_9 : decode cX13_haveRoom 9 = .ok (.if_icmp .gt 21, 3) := by decide +kernel
theorem dX13_haveRoom_30 : decode cX13_haveRoom 30 = .ok (.iconst 0, 1) := by decide +kernel
theorem dX13_haveRoom_31 : decode cX13_haveRoom 31 = .ok (.ireturn, 1) := by decide +kernel
theorem dX13_haveRoom_12 : decode cX13_haveRoom 12 = .ok (.aload_n 0, 1) := by decide +kernel
theorem dX13_haveRoom_13 : decode cX13_haveRoom 13 = .ok (.getfield 29, 3) := by decide +kernel
theorem dX13_haveRoom_16 : decode cX13_haveRoom 16 = .ok (.iload_n 1, 1) := by decide +kernel
theorem dX13_haveRoom_17 : decode cX13_haveRoom 17 = .ok (.aaload, 1) := by decide +kernel
theorem dX13_haveRoom_18 : decode cX13_haveRoom 18 = .ok (.arraylength, 1) := by decide +kernel
theorem dX13_haveRoom_19 : decode cX13_haveRoom 19 = .ok (.iload_n 2, 1) := by decide +kernel
theorem dX13_haveRoom_20 : decode cX13_haveRoom 20 = .ok (.iadd, 1) := by decide +kernel
theorem dX13_haveRoom_21 : decode cX13_haveRoom 21 = .ok (.bipush 100, 2) := by decide +kernel
theorem dX13_haveRoom_23 : decode cX13_haveRoom 23 = .ok (.if_icmp .gt 7, 3) := by decide +kernel
theorem dX13_haveRoom_26 : decode cX13_haveRoom 26 = .ok (.iconst 1, 1) := by decide +kernel
theorem dX13_haveRoom_27 : decode cX13_haveRoom 27 = .ok (.goto 4, 3) := by decide +kernel
theorem dX13_comes_0 : decode cX13_comes 0 = .ok (.aload_n 0, 1) := by decide +kernel
theorem dX13_comes_1 : decode cX13_comes 1 = .ok (.getfield 11, 3) := by decide +kernel
theorem dX13_comes_4 : decode cX13_comes 4 = .ok (.aload_n 0, 1) := by decide +kernel
theorem dX13_comes_5 : decode cX13_comes 5 = .ok (.getfield 41, 3) := by decide +kernel
theorem dX13_comes_8 : decode cX13_comes 8 = .ok (.iload_n 2, 1) := by decide +kernel
theorem dX13_comes_9 : decode cX13_comes 9 = .ok (.iastore, 1) := by decide +kernel
theorem dX13_comes_10 : decode cX13_comes 10 = .ok (.aload_n 0, 1) := by decide +kernel
theorem dX13_comes_11 : decode cX13_comes 11 = .ok (.getfield 24, 3) := by decide +kernel
theorem dX13_comes_14 : decode cX13_comes 14 = .ok (.aload_n 0, 1) := by decide +kernel
theorem dX13_comes_15 : decode cX13_comes 15 = .ok (.getfield 41, 3) := by decide +kernel
theorem dX13_comes_18 : decode cX13_comes 18 = .ok (.iload_n 3, 1) := by decide +kernel
theorem dX13_comes_19 : decode cX13_comes 19 = .ok (.iastore, 1) := by decide +kernel
theorem dX13_comes_20 : decode cX13_comes 20 = .ok (.aload_n 0, 1) := by decide +kernel
theorem dX13_comes_21 : decode cX13_comes 21 = .ok (.getfield 29, 3) := by decide +kernel
theorem dX13_comes_24 : decode cX13_comes 24 = .ok (.iload_n 1, 1) := by decide +kernel
theorem dX13_comes_25 : decode cX13_comes 25 = .ok (.aaload, 1) := by decide +kernel
theorem dX13_comes_26 : decode cX13_comes 26 = .ok (.arraylength, 1) := by decide +kernel
theorem dX13_comes_27 : decode cX13_comes 27 = .ok (.iconst 1, 1) := by decide +kernel
theorem dX13_comes_28 : decode cX13_comes 28 = .ok (.iadd, 1) := by decide +kernel
theorem dX13_comes_29 : decode cX13_comes 29 = .ok (.newarray .int, 2) := by decide +kernel
theorem dX13_comes_31 : decode cX13_comes 31 = .ok (.astore 4, 2) := by decide +kernel
theorem dX13_comes_33 : decode cX13_comes 33 = .ok (.iconst 0, 1) := by decide +kernel
theorem dX13_comes_34 : decode cX13_comes 34 = .ok (.istore 5, 2) := by decide +kernel
theorem dX13_comes_36 : decode cX13_comes 36 = .ok (.iload 5, 2) := by decide +kernel
theorem dX13_comes_38 : decode cX13_comes 38 = .ok (.aload_n 0, 1) := by decide +kernel
theorem dX13_comes_39 : decode cX13_comes 39 = .ok (.getfield 29, 3) := by decide +kernel
theorem dX13_comes_42 : decode cX13_comes 42 = .ok (.iload_n 1, 1) := by decide +kernel
theorem dX13_comes_43 : decode cX13_comes 43 = .ok (.aaload, 1) := by decide +kernel
theorem dX13_comes_44 : decode cX13_comes 44 = .ok (.arraylength, 1) := by decide +kernel
theorem dX13_comes_45 : decode cX13_comes 45 = .ok (.if_icmp .ge 23, 3) := by decide +kernel
theorem dX13_comes_68 : decode cX13_comes 68 = .ok (.aload 4, 2) := by decide +kernel
theorem dX13_comes_70 : decode cX13_comes 70 = .ok (.aload 4, 2) := by decide +kernel
theorem dX13_comes_72 : decode cX13_comes 72 = .ok (.arraylength, 1) := by decide +kernel
theorem dX13_comes_73 : decode cX13_comes 73 = .ok (.iconst 1, 1) := by decide +kernel
theorem dX13_comes_74 : decode cX13_comes 74 = .ok (.isub, 1) := by decide +kernel
theorem dX13_comes_75 : decode cX13_comes 75 = .ok (.aload_n 0, 1) := by decide +kernel
theorem dX13_comes_76 : decode cX13_comes 76 = .ok (.getfield 41, 3) := by decide +kernel
theorem dX13_comes_79 : decode cX13_comes 79 = .ok (.iastore, 1) := by decide +kernel
theorem dX13_comes_80 : decode cX13_comes 80 = .ok (.aload_n 0, 1) := by decide +kernel
theorem dX13_comes_81 : decode cX13_comes 81 = .ok (.getfield 29, 3) := by decide +kernel
theorem dX13_comes_84 : decode cX13_comes 84 = .ok (.iload_n 1, 1) := by decide +kernel
theorem dX13_comes_85 : decode cX13_comes 85 = .ok (.aload 4, 2) := by decide +kernel
theorem dX13_comes_87 : decode cX13_comes 87 = .ok (.aastore, 1) := by decide +kernel
theorem dX13_comes_88 : decode cX13_comes 88 = .ok (.aload_n 0, 1) := by decide +kernel
theorem dX13_comes_89 : decode cX13_comes 89 = .ok (.dup, 1) := by decide +kernel
theorem dX13_comes_90 : decode cX13_comes 90 = .ok (.getfield 41, 3) := by decide +kernel
theorem dX13_comes_93 : decode cX13_comes 93 = .ok (.iconst 1, 1) := by decide +kernel
theorem dX13_comes_94 : decode cX13_comes 94 = .ok (.iadd, 1) := by decide +kernel
theorem dX13_comes_95 : decode cX13_comes 95 = .ok (.putfield 41, 3) := by decide +kernel
theorem dX13_comes_98 : decode cX13_comes 98 = .ok (.return_, 1) := by decide +kernel
theorem dX13_comes_48 : decode cX13_comes 48 = .ok (.aload 4, 2) := by decide +kernel
theorem dX13_comes_50 : decode cX13_comes 50 = .ok (.iload 5, 2) := by decide +kernel
theorem dX13_comes_52 : decode cX13_comes 52 = .ok (.aload_n 0, 1) := by decide +kernel
theorem dX13_comes_53 : decode cX13_comes 53 = .ok (.getfield 29, 3) := by decide +kernel
theorem dX13_comes_56 : decode cX13_comes 56 = .ok (.iload_n 1, 1) := by decide +kernel
theorem dX13_comes_57 : decode cX13_comes 57 = .ok (.aaload, 1) := by decide +kernel
theorem dX13_comes_58 : decode cX13_comes 58 = .ok (.iload 5, 2) := by decide +kernel
theorem dX13_comes_60 : decode cX13_comes 60 = .ok (.iaload, 1) := by decide +kernel
theorem dX13_comes_61 : decode cX13_comes 61 = .ok (.iastore, 1) := by decide +kernel
theorem dX13_comes_62 : decode cX13_comes 62 = .ok (.iinc 5 1, 3) := by decide +kernel
theorem dX13_comes_65 : decode cX13_comes 65 = .ok (.goto (-29), 3) := by decide +kernel
theorem nI_sub1 (z : Nat) : nI (z + 1) - 1 = nI z := by
  rw [← nI_1]
  exact Int32.add_sub_cancel _ _
/-- is there room on a new office -/
def hrm (m : Int32) : Bool := decide (m ≤ 200) && decide (m ≤ 100)
theorem hrm_t {m : Int32} (h : rngb m 0 50 = true) : hrm m = true := by
  obtain ⟨j, hj, rfl⟩ := rng_ex (n := 50) h (by decide)
  have h1 : nI j ≤ (200 : Int32) := nI_le (b := 200) (by omega) (by decide)
  have h2 : nI j ≤ (100 : Int32) := nI_le (b := 100) (by omega) (by decide)
  simp [hrm, h1, h2]
theorem rng_sd {x : Int32} (h : ¬ x < 0) : rngb x 0 2147483647 = true := by
  refine rng_t h (i_nlt.mpr ?_)
  rw [Int32.le_iff_toInt_le]
  have h1 : x.toInt < 2147483648 := Int32.toInt_lt x
  have h2 : (2147483647 : Int32).toInt = 2147483647 := by decide
  omega
set_option maxHeartbeats 4000000 in
set_option maxRecDepth 100000 in
theorem c_X13_haveRoom (l : Launch) (dC : Nat → ClassId) (dI : Nat → Nat → Nat) (g : Nat → ClassId) (b : Nat → Nat) (r1 : Nat → Nat) (r2 : Nat → Nat) (j : Nat) (many : Int32) (th : Int32) (hj : j < 8) (sz : Nat) : Met l yX13_haveRoom wsX13_haveRoom ({ frames := 0, cells := 0, slots := 0, locals := 0 }) (va_Pc [.ref (b 0), .int (nI j), .int many] (PG (dC, dI) g (modW b r1 r2 g th) sz)) (va_Qi (fun (r : Int32) (_ : Unit) => r = b2i (hrm many)) (fun (_ : Unit) t => va_P (dC, dI) vwCl (modW b r1 r2 g th) t.heap) (va_A (modW b r1 r2 g th) sz)) 0 0 (va_A (modW b r1 r2 g th) sz) := by
  refine Met.ofW (cc := cX13_haveRoom) (maxL := 3) (ret := (some .boolean)) (by decide) rfl ?_
  intro p e s m args below meth c s₁ B hml hv
  obtain ⟨rfl, hsz, hP, hK, hD0, hG⟩ := hv
  have hx := B.exec
  have hb := B.bytes
  have hr := B.returns
  have hts := atoms_spec (ws := wsX13_haveRoom) B.pre
  have hown : s.vm.findClass RX13 = some m.cls := findClass_of_methodNamed B.named
  have hlocks := B.notSynchronized
  subst hsz
  have hD := hD0.self (sz := s.heap.size)
  generalize hAe : va_A (modW b r1 r2 g th) s.heap.size = A at hD hG ⊢
  have hA : ∀ q : Nat, s.heap.size ≤ q → A q := fun q h => by rw [← hAe]; exact Or.inr h
  have hS : va_S A s.heap s.heap [] := va_S.rf
  have hl := lv_entry ([.ref (b 0), .int (nI j), .int many]) (n := 3) (Nat.le_of_ble_eq_true rfl)
  rw [lg_entry_eq]
  generalize (lg_sl ([.ref (b 0), .int (nI j), .int many]) ++ List.replicate (3 - (lg_sl ([.ref (b 0), .int (nI j), .int many])).length) Slot.unset).toArray = ls at hl ⊢
  have hl : lv_has ls 3 [(0, .ref (b 0)), (1, .int (nI j)), (2, .int many)] := hl
  have hf41 := hts (Cond.fieldLink RX13 41 "RunmergeOfficeModel" "records" "I") (by decide +kernel)
  have hiX13 : ∀ w ∈ u_ws RX13 TX13 14, w ∈ wsX13_haveRoom := by decide +kernel
  have hf29 := hts (Cond.fieldLink RX13 29 "RunmergeOfficeModel" "tapes" "[[I") (by decide +kernel)
  refine lv_aload_n hx hb dX13_haveRoom_0 rfl (lv_at hl 0 rfl) ?_
  refine va_get (D := (dC, dI)) (ci := 15) (v := .int 0) (C := RX13) (T := TX13) (N := 14) hx hb hts hiX13 hown hK hP 0 (m_0 b r1 r2 g th) rfl 3 (by decide) hf41 (fun _ h9 => h9) rfl dX13_haveRoom_1 ?_
  refine lv_iload_n hx hb dX13_haveRoom_4 rfl (lv_at hl 2 rfl) ?_
  refine lv_iadd hx hb dX13_haveRoom_5 ?_
  refine lv_topi (fun x_1 ex_1 => ?_)
  refine lv_sipush (v := 200) hx hb dX13_haveRoom_6 (by decide) ?_
  refine lv_icmp_gt (tgt := 30) hx hb dX13_haveRoom_9 (by decide) (fun c_2 => ?_) (fun c_2 => ?_)
  · refine lv_iconst (v := 0) hx hb dX13_haveRoom_30 (by decide) ?_
    exact W.zret (v := 0) hx hb hr rfl (fun t ht hW => ⟨⟨0, (), rfl, by rw [show hrm many = false from by simp [hrm, i_nle.mpr (show (200 : Int32) < many from by rw [← Int32.zero_add many, ← ex_1]; exact c_2)]]; rfl, P_at ht hP⟩, hS.F ht⟩) hS.2.2 dX13_haveRoom_31
  · refine lv_aload_n hx hb dX13_haveRoom_12 rfl (lv_at hl 0 rfl) ?_
    refine va_get (D := (dC, dI)) (ci := 15) (v := .ref (b 3)) (C := RX13) (T := TX13) (N := 14) hx hb hts hiX13 hown hK hP 0 (m_0 b r1 r2 g th) rfl 4 (by decide) hf29 (fun _ h9 => h9) rfl dX13_haveRoom_13 ?_
    refine lv_iload_n hx hb dX13_haveRoom_16 rfl (lv_at hl 1 rfl) ?_
    refine va_aldA hx hb hK hP 3 (m_3 b r1 r2 g th) (vp_in_nI hj (by decide)) dX13_haveRoom_17 ?_
    refine W.eq (g2 := F0 m 18 ls [.ref (r1 j)]) (by rw [nI_clamp (show j < 2 ^ 31 by omega)]; simp only [if_pos hj]; rfl) ?_
    refine va_alen hx hb hK hP (7 + j) 0 (m_row1 b r1 r2 g th j hj) rfl (v := 0) rfl dX13_haveRoom_18 ?_
    refine lv_iload_n hx hb dX13_haveRoom_19 rfl (lv_at hl 2 rfl) ?_
    refine lv_iadd hx hb dX13_haveRoom_20 ?_
    refine lv_topi (fun x_3 ex_3 => ?_)
    refine lv_bipush (v := 100) hx hb dX13_haveRoom_21 (by decide) ?_
    refine lv_icmp_gt (tgt := 30) hx hb dX13_haveRoom_23 (by decide) (fun c_4 => ?_) (fun c_4 => ?_)
    · refine lv_iconst (v := 0) hx hb dX13_haveRoom_30 (by decide) ?_
      exact W.zret (v := 0) hx hb hr rfl (fun t ht hW => ⟨⟨0, (), rfl, by rw [show hrm many = false from by simp [hrm, i_nle.mpr (show (100 : Int32) < many from by rw [← Int32.zero_add many, ← ex_3]; exact c_4)]]; rfl, P_at ht hP⟩, hS.F ht⟩) hS.2.2 dX13_haveRoom_31
    · refine lv_iconst (v := 1) hx hb dX13_haveRoom_26 (by decide) ?_
      refine lv_goto (tgt := 31) hx hb dX13_haveRoom_27 (by decide) ?_
      exact W.zret (v := 1) hx hb hr rfl (fun t ht hW => ⟨⟨1, (), rfl, by rw [show hrm many = true from by simp [hrm, i_nlt.mp (show ¬ (200 : Int32) < many from by rw [← Int32.zero_add many, ← ex_1]; exact c_2), i_nlt.mp (show ¬ (100 : Int32) < many from by rw [← Int32.zero_add many, ← ex_3]; exact c_4)]]; rfl, P_at ht hP⟩, hS.F ht⟩) hS.2.2 dX13_haveRoom_31
set_option maxHeartbeats 4000000 in
set_option maxRecDepth 100000 in
theorem c_X13_comes (l : Launch) (dC : Nat → ClassId) (dI : Nat → Nat → Nat) (g : Nat → ClassId) (b : Nat → Nat) (r1 : Nat → Nat) (r2 : Nat → Nat) (j : Nat) (q : Nat) (z : Nat) (fo : Nat → Option Nat) (fr : Nat → Int32) (fk : Nat → Int32) (fm : Nat → Int32) (ky : Int32) (mk : Int32) (th : Int32) (hj : j < 8) (hfo : fo j = some q) (hz : z < 100) (sz : Nat) : Met l yX13_comes wsX13_comes ({ frames := 0, cells := 1, slots := 101, locals := 0 }) (va_Pc [.ref (b 0), .int (nI j), .int ky, .int mk] (PG (dC, dI) g [((b 0), .inr (15, [.int th, .ref (b 1), .ref (b 2), .int (nI z), .ref (b 3), .ref (b 4), .ref (b 5), .null, .ref (b 6), .int 0, .int 0, .int 0, .int 0, .int 0])), ((b 3), .inl (g 4, 8, .inr (.inr (.inr (.inr fo))))), (q, .inl (g 0, z, .inl fr)), ((b 1), .inl (g 0, 200, .inl fk)), ((b 2), .inl (g 0, 200, .inl fm))] sz)) (va_Qv (fun (_ : Nat × (Nat → Int32)) => True) (fun (u : Nat × (Nat → Int32)) t9 => va_P (dC, dI) vwCl [((b 0), .inr (15, [.int th, .ref (b 1), .ref (b 2), .int (nI (z + 1)), .ref (b 3), .ref (b 4), .ref (b 5), .null, .ref (b 6), .int 0, .int 0, .int 0, .int 0, .int 0])), ((b 3), .inl (g 4, 8, .inr (.inr (.inr (.inr (va_up fo (nI j).toNatClampNeg (some (u.1)))))))), ((u.1), .inl (g 0, (z + 1), .inl (u.2))), ((b 1), .inl (g 0, 200, .inl (upd fk (nI z).toNatClampNeg ky))), ((b 2), .inl (g 0, 200, .inl (upd fm (nI z).toNatClampNeg mk)))] t9.heap ∧ va_D (va_A [((b 0), .inr (15, [.int th, .ref (b 1), .ref (b 2), .int (nI z), .ref (b 3), .ref (b 4), .ref (b 5), .null, .ref (b 6), .int 0, .int 0, .int 0, .int 0, .int 0])), ((b 3), .inl (g 4, 8, .inr (.inr (.inr (.inr fo))))), (q, .inl (g 0, z, .inl fr)), ((b 1), .inl (g 0, 200, .inl fk)), ((b 2), .inl (g 0, 200, .inl fm))] sz) [((b 0), .inr (15, [.int th, .ref (b 1), .ref (b 2), .int (nI (z + 1)), .ref (b 3), .ref (b 4), .ref (b 5), .null, .ref (b 6), .int 0, .int 0, .int 0, .int 0, .int 0])), ((b 3), .inl (g 4, 8, .inr (.inr (.inr (.inr (va_up fo (nI j).toNatClampNeg (some (u.1)))))))), ((u.1), .inl (g 0, (z + 1), .inl (u.2))), ((b 1), .inl (g 0, 200, .inl (upd fk (nI z).toNatClampNeg ky))), ((b 2), .inl (g 0, 200, .inl (upd fm (nI z).toNatClampNeg mk)))]) (va_A [((b 0), .inr (15, [.int th, .ref (b 1), .ref (b 2), .int (nI z), .ref (b 3), .ref (b 4), .ref (b 5), .null, .ref (b 6), .int 0, .int 0, .int 0, .int 0, .int 0])), ((b 3), .inl (g 4, 8, .inr (.inr (.inr (.inr fo))))), (q, .inl (g 0, z, .inl fr)), ((b 1), .inl (g 0, 200, .inl fk)), ((b 2), .inl (g 0, 200, .inl fm))] sz)) 1 101 (va_A [((b 0), .inr (15, [.int th, .ref (b 1), .ref (b 2), .int (nI z), .ref (b 3), .ref (b 4), .ref (b 5), .null, .ref (b 6), .int 0, .int 0, .int 0, .int 0, .int 0])), ((b 3), .inl (g 4, 8, .inr (.inr (.inr (.inr fo))))), (q, .inl (g 0, z, .inl fr)), ((b 1), .inl (g 0, 200, .inl fk)), ((b 2), .inl (g 0, 200, .inl fm))] sz) := by
  refine Met.ofW (cc := cX13_comes) (maxL := 6) (ret := none) (by decide) rfl ?_
  intro p e s m args below meth c s₁ B hml hv
  obtain ⟨rfl, hsz, hP, hK, hD0, hG⟩ := hv
  have hx := B.exec
  have hb := B.bytes
  have hr := B.returns
  have hts := atoms_spec (ws := wsX13_comes) B.pre
  have hown : s.vm.findClass RX13 = some m.cls := findClass_of_methodNamed B.named
  have hlocks := B.notSynchronized
  subst hsz
  have hD := hD0.self (sz := s.heap.size)
  generalize hAe : va_A [((b 0), .inr (15, [.int th, .ref (b 1), .ref (b 2), .int (nI z), .ref (b 3), .ref (b 4), .ref (b 5), .null, .ref (b 6), .int 0, .int 0, .int 0, .int 0, .int 0])), ((b 3), .inl (g 4, 8, .inr (.inr (.inr (.inr fo))))), (q, .inl (g 0, z, .inl fr)), ((b 1), .inl (g 0, 200, .inl fk)), ((b 2), .inl (g 0, 200, .inl fm))] s.heap.size = A at hD hG ⊢
  have hA : ∀ q : Nat, s.heap.size ≤ q → A q := fun q h => by rw [← hAe]; exact Or.inr h
  have hS : va_S A s.heap s.heap [] := va_S.rf
  have hl := lv_entry ([.ref (b 0), .int (nI j), .int ky, .int mk]) (n := 6) (Nat.le_of_ble_eq_true rfl)
  rw [lg_entry_eq]
  generalize (lg_sl ([.ref (b 0), .int (nI j), .int ky, .int mk]) ++ List.replicate (6 - (lg_sl ([.ref (b 0), .int (nI j), .int ky, .int mk])).length) Slot.unset).toArray = ls at hl ⊢
  have hl : lv_has ls 6 [(0, .ref (b 0)), (1, .int (nI j)), (2, .int ky), (3, .int mk)] := hl
  have hf11 := hts (Cond.fieldLink RX13 11 "RunmergeOfficeModel" "keys" "[I") (by decide +kernel)
  have hiX13 : ∀ w ∈ u_ws RX13 TX13 14, w ∈ wsX13_comes := by decide +kernel
  have hf41 := hts (Cond.fieldLink RX13 41 "RunmergeOfficeModel" "records" "I") (by decide +kernel)
  have hf24 := hts (Cond.fieldLink RX13 24 "RunmergeOfficeModel" "marks" "[I") (by decide +kernel)
  have hf29 := hts (Cond.fieldLink RX13 29 "RunmergeOfficeModel" "tapes" "[[I") (by decide +kernel)
  have hnaint := hts (Cond.arrayClass (newarray.typeOf .int)) (by decide +kernel)
  refine lv_aload_n hx hb dX13_comes_0 rfl (lv_at hl 0 rfl) ?_
  refine va_get (D := (dC, dI)) (ci := 15) (v := .ref (b 1)) (C := RX13) (T := TX13) (N := 14) hx hb hts hiX13 hown hK hP 0 rfl rfl 1 (by decide) hf11 (fun _ h9 => h9) rfl dX13_comes_1 ?_
  refine lv_aload_n hx hb dX13_comes_4 rfl (lv_at hl 0 rfl) ?_
  refine va_get (D := (dC, dI)) (ci := 15) (v := .int (nI z)) (C := RX13) (T := TX13) (N := 14) hx hb hts hiX13 hown hK hP 0 rfl rfl 3 (by decide) hf41 (fun _ h9 => h9) rfl dX13_comes_5 ?_
  refine lv_iload_n hx hb dX13_comes_8 rfl (lv_at hl 2 rfl) ?_
  refine va_iast hx hb hK hP hD hS 3 0 rfl rfl (vp_in_nI (by omega) (by decide)) dX13_comes_9 (fun H_1 L_2 hP hD hS => ?_)
  have hP : va_P (dC, dI) vwCl [((b 0), .inr (15, [.int th, .ref (b 1), .ref (b 2), .int (nI z), .ref (b 3), .ref (b 4), .ref (b 5), .null, .ref (b 6), .int 0, .int 0, .int 0, .int 0, .int 0])), ((b 3), .inl (g 4, 8, .inr (.inr (.inr (.inr fo))))), (q, .inl (g 0, z, .inl fr)), ((b 1), .inl (g 0, 200, .inl (upd fk (nI z).toNatClampNeg ky))), ((b 2), .inl (g 0, 200, .inl fm))] H_1 := hP
  have hD : va_D A [((b 0), .inr (15, [.int th, .ref (b 1), .ref (b 2), .int (nI z), .ref (b 3), .ref (b 4), .ref (b 5), .null, .ref (b 6), .int 0, .int 0, .int 0, .int 0, .int 0])), ((b 3), .inl (g 4, 8, .inr (.inr (.inr (.inr fo))))), (q, .inl (g 0, z, .inl fr)), ((b 1), .inl (g 0, 200, .inl (upd fk (nI z).toNatClampNeg ky))), ((b 2), .inl (g 0, 200, .inl fm))] := hD
  refine lv_aload_n hx hb dX13_comes_10 rfl (lv_at hl 0 rfl) ?_
  refine va_get (D := (dC, dI)) (ci := 15) (v := .ref (b 2)) (C := RX13) (T := TX13) (N := 14) hx hb hts hiX13 hown hK hP 0 rfl rfl 2 (by decide) hf24 (fun _ h9 => h9) rfl dX13_comes_11 ?_
  refine lv_aload_n hx hb dX13_comes_14 rfl (lv_at hl 0 rfl) ?_
  refine va_get (D := (dC, dI)) (ci := 15) (v := .int (nI z)) (C := RX13) (T := TX13) (N := 14) hx hb hts hiX13 hown hK hP 0 rfl rfl 3 (by decide) hf41 (fun _ h9 => h9) rfl dX13_comes_15 ?_
  refine lv_iload_n hx hb dX13_comes_18 rfl (lv_at hl 3 rfl) ?_
  refine va_iast hx hb hK hP hD hS 4 0 rfl rfl (vp_in_nI (by omega) (by decide)) dX13_comes_19 (fun H_3 L_4 hP hD hS => ?_)
  have hP : va_P (dC, dI) vwCl [((b 0), .inr (15, [.int th, .ref (b 1), .ref (b 2), .int (nI z), .ref (b 3), .ref (b 4), .ref (b 5), .null, .ref (b 6), .int 0, .int 0, .int 0, .int 0, .int 0])), ((b 3), .inl (g 4, 8, .inr (.inr (.inr (.inr fo))))), (q, .inl (g 0, z, .inl fr)), ((b 1), .inl (g 0, 200, .inl (upd fk (nI z).toNatClampNeg ky))), ((b 2), .inl (g 0, 200, .inl (upd fm (nI z).toNatClampNeg mk)))] H_3 := hP
  have hD : va_D A [((b 0), .inr (15, [.int th, .ref (b 1), .ref (b 2), .int (nI z), .ref (b 3), .ref (b 4), .ref (b 5), .null, .ref (b 6), .int 0, .int 0, .int 0, .int 0, .int 0])), ((b 3), .inl (g 4, 8, .inr (.inr (.inr (.inr fo))))), (q, .inl (g 0, z, .inl fr)), ((b 1), .inl (g 0, 200, .inl (upd fk (nI z).toNatClampNeg ky))), ((b 2), .inl (g 0, 200, .inl (upd fm (nI z).toNatClampNeg mk)))] := hD
  refine lv_aload_n hx hb dX13_comes_20 rfl (lv_at hl 0 rfl) ?_
  refine va_get (D := (dC, dI)) (ci := 15) (v := .ref (b 3)) (C := RX13) (T := TX13) (N := 14) hx hb hts hiX13 hown hK hP 0 rfl rfl 4 (by decide) hf29 (fun _ h9 => h9) rfl dX13_comes_21 ?_
  refine lv_iload_n hx hb dX13_comes_24 rfl (lv_at hl 1 rfl) ?_
  refine va_aldA hx hb hK hP 1 rfl (vp_in_nI hj (by decide)) dX13_comes_25 ?_
  refine W.eq (g2 := F0 m 26 ls [.ref q]) (by rw [nI_clamp (show j < 2 ^ 31 by omega), hfo]; rfl) ?_
  refine va_alen hx hb hK hP 2 0 rfl rfl (v := nI z) rfl dX13_comes_26 ?_
  refine lv_iconst (v := 1) hx hb dX13_comes_27 (by decide) ?_
  refine lv_iadd hx hb dX13_comes_28 ?_
  refine lv_topi (fun x_5 ex_5 => ?_)
  obtain rfl : x_5 = nI (z + 1) := ex_5.trans (nI_1 _)
  refine va_newa (atype := .int) (a0 := (z + 1, .inl (fun _ => 0))) hx hb hnaint rfl hK hP hD hS hA (fun _ => rfl) (nI_pos (by omega)) (N' := z + 1) (nI_clamp (by omega)) (show (z + 1) * 4 ≤ 536870912 by omega) (Nat.le_of_ble_eq_true rfl) (Nat.le_trans (show 0 + (z + 1) ≤ 101 by omega) (Nat.le_of_ble_eq_true rfl)) dX13_comes_29 (fun q_6 cA_8 H_7 hK9 hP hD hS => ?_)
  obtain rfl : g 0 = cA_8 := K_one hK9 0 6 rfl rfl
  have hP : va_P (dC, dI) vwCl [((b 0), .inr (15, [.int th, .ref (b 1), .ref (b 2), .int (nI z), .ref (b 3), .ref (b 4), .ref (b 5), .null, .ref (b 6), .int 0, .int 0, .int 0, .int 0, .int 0])), ((b 3), .inl (g 4, 8, .inr (.inr (.inr (.inr fo))))), (q, .inl (g 0, z, .inl fr)), ((b 1), .inl (g 0, 200, .inl (upd fk (nI z).toNatClampNeg ky))), ((b 2), .inl (g 0, 200, .inl (upd fm (nI z).toNatClampNeg mk))), (q_6, .inl (g 0, z + 1, .inl (fun _ => 0)))] H_7 := hP
  have hD : va_D A [((b 0), .inr (15, [.int th, .ref (b 1), .ref (b 2), .int (nI z), .ref (b 3), .ref (b 4), .ref (b 5), .null, .ref (b 6), .int 0, .int 0, .int 0, .int 0, .int 0])), ((b 3), .inl (g 4, 8, .inr (.inr (.inr (.inr fo))))), (q, .inl (g 0, z, .inl fr)), ((b 1), .inl (g 0, 200, .inl (upd fk (nI z).toNatClampNeg ky))), ((b 2), .inl (g 0, 200, .inl (upd fm (nI z).toNatClampNeg mk))), (q_6, .inl (g 0, z + 1, .inl (fun _ => 0)))] := hD
  refine W.widen (k := 1) (n := 101) (by omega) (by omega) ?_
  refine lv_astore (lv' := [(4, .ref q_6), (0, .ref (b 0)), (1, .int (nI j)), (2, .int ky), (3, .int mk)]) hx hb dX13_comes_31 hl (by decide) rfl (fun ls hl => ?_)
  refine lv_iconst (v := 0) hx hb dX13_comes_33 (by decide) ?_
  refine lv_istore (lv' := [(5, .int 0), (4, .ref q_6), (0, .ref (b 0)), (1, .int (nI j)), (2, .int ky), (3, .int mk)]) hx hb dX13_comes_34 hl (by decide) rfl (fun ls hl => ?_)
  refine W_abs (fun Q hQ => ?_)
  have LOOP36 : ∀ (n i : Nat), i ≤ z → z < i + n → ∀ (fx : Nat → Int32) (H : Heap) (locs : List Loc), va_P (dC, dI) vwCl [((b 0), .inr (15, [.int th, .ref (b 1), .ref (b 2), .int (nI z), .ref (b 3), .ref (b 4), .ref (b 5), .null, .ref (b 6), .int 0, .int 0, .int 0, .int 0, .int 0])), ((b 3), .inl (g 4, 8, .inr (.inr (.inr (.inr fo))))), (q, .inl (g 0, z, .inl fr)), ((b 1), .inl (g 0, 200, .inl (upd fk (nI z).toNatClampNeg ky))), ((b 2), .inl (g 0, 200, .inl (upd fm (nI z).toNatClampNeg mk))), (q_6, .inl (g 0, z + 1, .inl fx))] H → va_D A [((b 0), .inr (15, [.int th, .ref (b 1), .ref (b 2), .int (nI z), .ref (b 3), .ref (b 4), .ref (b 5), .null, .ref (b 6), .int 0, .int 0, .int 0, .int 0, .int 0])), ((b 3), .inl (g 4, 8, .inr (.inr (.inr (.inr fo))))), (q, .inl (g 0, z, .inl fr)), ((b 1), .inl (g 0, 200, .inl (upd fk (nI z).toNatClampNeg ky))), ((b 2), .inl (g 0, 200, .inl (upd fm (nI z).toNatClampNeg mk))), (q_6, .inl (g 0, z + 1, .inl fx))] → va_S A s.heap H locs → ∀ (ls : Array Slot), lv_has ls 6 [(5, .int (nI i)), (0, .ref (b 0)), (1, .int (nI j)), (2, .int ky), (3, .int mk), (4, .ref q_6)] → W p l e (headSpec wsX13_comes ({ frames := 0, cells := 1, slots := 101, locals := 0 })).room s m ([.ref (b 0), .int (nI j), .int ky, .int mk] : List Value).toArray below meth c H locs 1 101 Q (F0 m 36 ls []) := by
    intro n
    induction n with
    | zero =>
      intro i h1 h2
      exact absurd h2 (by omega)
    | succ n ih =>
      intro i hi hin fx H locs hP hD hS ls hl
      refine lv_iload hx hb dX13_comes_36 (lv_at hl 0 rfl) ?_
      refine lv_aload_n hx hb dX13_comes_38 rfl (lv_at hl 1 rfl) ?_
      refine va_get (D := (dC, dI)) (ci := 15) (v := .ref (b 3)) (C := RX13) (T := TX13) (N := 14) hx hb hts hiX13 hown hK hP 0 rfl rfl 4 (by decide) hf29 (fun _ h9 => h9) rfl dX13_comes_39 ?_
      refine lv_iload_n hx hb dX13_comes_42 rfl (lv_at hl 2 rfl) ?_
      refine va_aldA hx hb hK hP 1 rfl (vp_in_nI hj (by decide)) dX13_comes_43 ?_
      refine W.eq (g2 := F0 m 44 ls [.ref q, .int (nI i)]) (by rw [nI_clamp (show j < 2 ^ 31 by omega), hfo]; rfl) ?_
      refine va_alen hx hb hK hP 2 0 rfl rfl (v := nI z) rfl dX13_comes_44 ?_
      refine lv_icmp_ge (tgt := 68) hx hb dX13_comes_45 (by decide) (fun c_9 => ?_) (fun c_9 => ?_)
      · have h9 := (nI_leI (by omega) (by omega)).mp c_9
        obtain rfl : z = i := by omega
        refine lv_aload hx hb dX13_comes_68 (lv_at hl 5 rfl) ?_
        refine lv_aload hx hb dX13_comes_70 (lv_at hl 5 rfl) ?_
        refine va_alen hx hb hK hP 5 0 rfl rfl (v := nI (z + 1)) rfl dX13_comes_72 ?_
        refine lv_iconst (v := 1) hx hb dX13_comes_73 (by decide) ?_
        refine lv_isub hx hb dX13_comes_74 ?_
        refine lv_topi (fun x_10 ex_10 => ?_)
        obtain rfl : x_10 = nI z := ex_10.trans (nI_sub1 _)
        refine lv_aload_n hx hb dX13_comes_75 rfl (lv_at hl 1 rfl) ?_
        refine va_get (D := (dC, dI)) (ci := 15) (v := .int (nI z)) (C := RX13) (T := TX13) (N := 14) hx hb hts hiX13 hown hK hP 0 rfl rfl 3 (by decide) hf41 (fun _ h9 => h9) rfl dX13_comes_76 ?_
        refine va_iast hx hb hK hP hD hS 5 0 rfl rfl (vp_in_nI (by omega) (by omega)) dX13_comes_79 (fun H_11 L_12 hP hD hS => ?_)
        have hP : va_P (dC, dI) vwCl [((b 0), .inr (15, [.int th, .ref (b 1), .ref (b 2), .int (nI z), .ref (b 3), .ref (b 4), .ref (b 5), .null, .ref (b 6), .int 0, .int 0, .int 0, .int 0, .int 0])), ((b 3), .inl (g 4, 8, .inr (.inr (.inr (.inr fo))))), (q, .inl (g 0, z, .inl fr)), ((b 1), .inl (g 0, 200, .inl (upd fk (nI z).toNatClampNeg ky))), ((b 2), .inl (g 0, 200, .inl (upd fm (nI z).toNatClampNeg mk))), (q_6, .inl (g 0, z + 1, .inl (upd fx (nI z).toNatClampNeg (nI z))))] H_11 := hP
        have hD : va_D A [((b 0), .inr (15, [.int th, .ref (b 1), .ref (b 2), .int (nI z), .ref (b 3), .ref (b 4), .ref (b 5), .null, .ref (b 6), .int 0, .int 0, .int 0, .int 0, .int 0])), ((b 3), .inl (g 4, 8, .inr (.inr (.inr (.inr fo))))), (q, .inl (g 0, z, .inl fr)), ((b 1), .inl (g 0, 200, .inl (upd fk (nI z).toNatClampNeg ky))), ((b 2), .inl (g 0, 200, .inl (upd fm (nI z).toNatClampNeg mk))), (q_6, .inl (g 0, z + 1, .inl (upd fx (nI z).toNatClampNeg (nI z))))] := hD
        refine lv_aload_n hx hb dX13_comes_80 rfl (lv_at hl 1 rfl) ?_
        refine va_get (D := (dC, dI)) (ci := 15) (v := .ref (b 3)) (C := RX13) (T := TX13) (N := 14) hx hb hts hiX13 hown hK hP 0 rfl rfl 4 (by decide) hf29 (fun _ h9 => h9) rfl dX13_comes_81 ?_
        refine lv_iload_n hx hb dX13_comes_84 rfl (lv_at hl 2 rfl) ?_
        refine lv_aload hx hb dX13_comes_85 (lv_at hl 5 rfl) ?_
        refine va_astA hx hb hK (ao_3 hG) hP hD hS 1 5 rfl rfl (vp_in_nI hj (by decide)) dX13_comes_87 (fun H_13 L_14 hP hD hS => ?_)
        have hP : va_P (dC, dI) vwCl [((b 0), .inr (15, [.int th, .ref (b 1), .ref (b 2), .int (nI z), .ref (b 3), .ref (b 4), .ref (b 5), .null, .ref (b 6), .int 0, .int 0, .int 0, .int 0, .int 0])), ((b 3), .inl (g 4, 8, .inr (.inr (.inr (.inr (va_up fo (nI j).toNatClampNeg (some q_6))))))), (q, .inl (g 0, z, .inl fr)), ((b 1), .inl (g 0, 200, .inl (upd fk (nI z).toNatClampNeg ky))), ((b 2), .inl (g 0, 200, .inl (upd fm (nI z).toNatClampNeg mk))), (q_6, .inl (g 0, z + 1, .inl (upd fx (nI z).toNatClampNeg (nI z))))] H_13 := hP
        have hD : va_D A [((b 0), .inr (15, [.int th, .ref (b 1), .ref (b 2), .int (nI z), .ref (b 3), .ref (b 4), .ref (b 5), .null, .ref (b 6), .int 0, .int 0, .int 0, .int 0, .int 0])), ((b 3), .inl (g 4, 8, .inr (.inr (.inr (.inr (va_up fo (nI j).toNatClampNeg (some q_6))))))), (q, .inl (g 0, z, .inl fr)), ((b 1), .inl (g 0, 200, .inl (upd fk (nI z).toNatClampNeg ky))), ((b 2), .inl (g 0, 200, .inl (upd fm (nI z).toNatClampNeg mk))), (q_6, .inl (g 0, z + 1, .inl (upd fx (nI z).toNatClampNeg (nI z))))] := hD
        refine lv_aload_n hx hb dX13_comes_88 rfl (lv_at hl 1 rfl) ?_
        refine lv_dup hx hb dX13_comes_89 rfl ?_
        refine va_get (D := (dC, dI)) (ci := 15) (v := .int (nI z)) (C := RX13) (T := TX13) (N := 14) hx hb hts hiX13 hown hK hP 0 rfl rfl 3 (by decide) hf41 (fun _ h9 => h9) rfl dX13_comes_90 ?_
        refine lv_iconst (v := 1) hx hb dX13_comes_93 (by decide) ?_
        refine lv_iadd hx hb dX13_comes_94 ?_
        refine lv_topi (fun x_15 ex_15 => ?_)
        obtain rfl : x_15 = nI (z + 1) := ex_15.trans (nI_1 _)
        refine va_put (D := (dC, dI)) (ci := 15) (v := .int (nI (z + 1))) (ty := .int) (C := RX13) (T := TX13) (N := 14) hx hb hts hiX13 tyX13 tyX13_ok nmX13 hown hK hP hD hS 0 rfl rfl 3 (by decide) hf41 (fun _ h9 => h9) rfl (by decide +kernel) rfl rfl (Nat.le_of_ble_eq_true rfl) dX13_comes_95 (fun H_16 L_17 hP hD hS => ?_)
        have hP : va_P (dC, dI) vwCl [((b 0), .inr (15, [.int th, .ref (b 1), .ref (b 2), .int (nI (z + 1)), .ref (b 3), .ref (b 4), .ref (b 5), .null, .ref (b 6), .int 0, .int 0, .int 0, .int 0, .int 0])), ((b 3), .inl (g 4, 8, .inr (.inr (.inr (.inr (va_up fo (nI j).toNatClampNeg (some q_6))))))), (q, .inl (g 0, z, .inl fr)), ((b 1), .inl (g 0, 200, .inl (upd fk (nI z).toNatClampNeg ky))), ((b 2), .inl (g 0, 200, .inl (upd fm (nI z).toNatClampNeg mk))), (q_6, .inl (g 0, z + 1, .inl (upd fx (nI z).toNatClampNeg (nI z))))] H_16 := hP
        have hD : va_D A [((b 0), .inr (15, [.int th, .ref (b 1), .ref (b 2), .int (nI (z + 1)), .ref (b 3), .ref (b 4), .ref (b 5), .null, .ref (b 6), .int 0, .int 0, .int 0, .int 0, .int 0])), ((b 3), .inl (g 4, 8, .inr (.inr (.inr (.inr (va_up fo (nI j).toNatClampNeg (some q_6))))))), (q, .inl (g 0, z, .inl fr)), ((b 1), .inl (g 0, 200, .inl (upd fk (nI z).toNatClampNeg ky))), ((b 2), .inl (g 0, 200, .inl (upd fm (nI z).toNatClampNeg mk))), (q_6, .inl (g 0, z + 1, .inl (upd fx (nI z).toNatClampNeg (nI z))))] := hD
        subst hQ
        have hP9 := hP.sub (ws' := [((b 0), .inr (15, [.int th, .ref (b 1), .ref (b 2), .int (nI (z + 1)), .ref (b 3), .ref (b 4), .ref (b 5), .null, .ref (b 6), .int 0, .int 0, .int 0, .int 0, .int 0])), ((b 3), .inl (g 4, 8, .inr (.inr (.inr (.inr (va_up fo (nI j).toNatClampNeg (some q_6))))))), (q_6, .inl (g 0, (z + 1), .inl (upd fx (nI z).toNatClampNeg (nI z)))), ((b 1), .inl (g 0, 200, .inl (upd fk (nI z).toNatClampNeg ky))), ((b 2), .inl (g 0, 200, .inl (upd fm (nI z).toNatClampNeg mk)))]) [0, 1, 5, 3, 4] rfl
        have hD9 := hD.sub (ws' := [((b 0), .inr (15, [.int th, .ref (b 1), .ref (b 2), .int (nI (z + 1)), .ref (b 3), .ref (b 4), .ref (b 5), .null, .ref (b 6), .int 0, .int 0, .int 0, .int 0, .int 0])), ((b 3), .inl (g 4, 8, .inr (.inr (.inr (.inr (va_up fo (nI j).toNatClampNeg (some q_6))))))), (q_6, .inl (g 0, (z + 1), .inl (upd fx (nI z).toNatClampNeg (nI z)))), ((b 1), .inl (g 0, 200, .inl (upd fk (nI z).toNatClampNeg ky))), ((b 2), .inl (g 0, 200, .inl (upd fm (nI z).toNatClampNeg mk)))]) [0, 1, 5, 3, 4] (by decide) rfl
        exact W.vret hx hb hr (fun t ht hW => ⟨⟨(q_6, (upd fx (nI z).toNatClampNeg (nI z))), rfl, trivial, ⟨P_at ht hP9, hD9⟩⟩, hS.F ht⟩) hS.2.2 dX13_comes_98
      · have hlt : i < z := by
          rcases Nat.lt_or_ge i z with q | q
          · exact q
          · exact absurd (nI_le q (by omega)) c_9
        refine lv_aload hx hb dX13_comes_48 (lv_at hl 5 rfl) ?_
        refine lv_iload hx hb dX13_comes_50 (lv_at hl 0 rfl) ?_
        refine lv_aload_n hx hb dX13_comes_52 rfl (lv_at hl 1 rfl) ?_
        refine va_get (D := (dC, dI)) (ci := 15) (v := .ref (b 3)) (C := RX13) (T := TX13) (N := 14) hx hb hts hiX13 hown hK hP 0 rfl rfl 4 (by decide) hf29 (fun _ h9 => h9) rfl dX13_comes_53 ?_
        refine lv_iload_n hx hb dX13_comes_56 rfl (lv_at hl 2 rfl) ?_
        refine va_aldA hx hb hK hP 1 rfl (vp_in_nI hj (by decide)) dX13_comes_57 ?_
        refine W.eq (g2 := F0 m 58 ls [.ref q, .int (nI i), .ref q_6]) (by rw [nI_clamp (show j < 2 ^ 31 by omega), hfo]; rfl) ?_
        refine lv_iload hx hb dX13_comes_58 (lv_at hl 0 rfl) ?_
        refine va_iald hx hb hK hP 2 0 rfl rfl (vp_in_nI hlt (by omega)) dX13_comes_60 ?_
        refine lv_topi (fun x_18 ex_18 => ?_)
        refine va_iast hx hb hK hP hD hS 5 0 rfl rfl (vp_in_nI (by omega) (by omega)) dX13_comes_61 (fun H_19 L_20 hP hD hS => ?_)
        have hP : va_P (dC, dI) vwCl [((b 0), .inr (15, [.int th, .ref (b 1), .ref (b 2), .int (nI z), .ref (b 3), .ref (b 4), .ref (b 5), .null, .ref (b 6), .int 0, .int 0, .int 0, .int 0, .int 0])), ((b 3), .inl (g 4, 8, .inr (.inr (.inr (.inr fo))))), (q, .inl (g 0, z, .inl fr)), ((b 1), .inl (g 0, 200, .inl (upd fk (nI z).toNatClampNeg ky))), ((b 2), .inl (g 0, 200, .inl (upd fm (nI z).toNatClampNeg mk))), (q_6, .inl (g 0, z + 1, .inl (upd fx (nI i).toNatClampNeg x_18)))] H_19 := hP
        have hD : va_D A [((b 0), .inr (15, [.int th, .ref (b 1), .ref (b 2), .int (nI z), .ref (b 3), .ref (b 4), .ref (b 5), .null, .ref (b 6), .int 0, .int 0, .int 0, .int 0, .int 0])), ((b 3), .inl (g 4, 8, .inr (.inr (.inr (.inr fo))))), (q, .inl (g 0, z, .inl fr)), ((b 1), .inl (g 0, 200, .inl (upd fk (nI z).toNatClampNeg ky))), ((b 2), .inl (g 0, 200, .inl (upd fm (nI z).toNatClampNeg mk))), (q_6, .inl (g 0, z + 1, .inl (upd fx (nI i).toNatClampNeg x_18)))] := hD
        refine lv_iinc (v := (nI (i + 1))) (lv' := [(5, .int (nI (i + 1))), (0, .ref (b 0)), (1, .int (nI j)), (2, .int ky), (3, .int mk), (4, .ref q_6)]) hx hb dX13_comes_62 hl (k := 0) rfl (nI_1 _) (by decide) rfl (fun ls hl => ?_)
        refine lv_goto (tgt := 36) hx hb dX13_comes_65 (by decide) ?_
        exact ih (i + 1) (by omega) (by omega) (upd fx (nI i).toNatClampNeg x_18) _ _ (hP.sub [0, 1, 2, 3, 4, 5] rfl) (hD.sub [0, 1, 2, 3, 4, 5] (by decide) rfl) hS _ (lv_sub hl [0, 1, 2, 3, 4, 5] rfl)
  exact LOOP36 (z + 1) 0 (Nat.zero_le _) (by omega) (fun _ => 0) _ _ (hP.sub [0, 1, 2, 3, 4, 5] rfl) (hD.sub [0, 1, 2, 3, 4, 5] (by decide) rfl) hS _ (lv_sub hl [0, 2, 3, 4, 5, 1] rfl)
