

set_option maxHeartbeats 8000000 in
set_option maxRecDepth 100000 in
theorem c_L_seed_x (l : Launch) (hlf : l.stackTraces = false) (dC : Nat → ClassId) (dI : Nat → Nat → Nat) (g : Nat → ClassId) (a_s_ s__n : Nat) (s__f : Nat → Int32) (Q : Nat → (Nat → Int32) → Prop) (hw : wp_L_seed_x s__n s__f Q) (sz : Nat) : Met l yL_seed wqL_seed ({ frames := 0, cells := 1, slots := 2, locals := 0 }) (va_Pc [.ref a_s_] (PX (GIb s__n s__f a_s_) (dC, dI) g [] sz)) (va_Qq (fun (r : Option Nat) (u : Nat × Nat × (Nat → Int32) × Unit) => r = some u.1 ∧ (Q u.2.1 u.2.2.1)) (fun (u : Nat × Nat × (Nat → Int32) × Unit) t9 => va_P (dC, dI) vwCl [(u.1, .inl (g 0, u.2.1, .inl u.2.2.1))] t9.heap ∧ va_D (va_A [] sz) [(u.1, .inl (g 0, u.2.1, .inl u.2.2.1))]) (va_A [] sz)) 1 2 (va_A [] sz) := by
  refine Met.ofW (cc := cL_seed) (maxL := 3) (ret := (some (.array .int))) (by decide) rfl ?_
  intro p e s m args below meth c s₁ B hml hv
  obtain ⟨rfl, ⟨hsz, hP, hK, hD0, hG⟩, hT⟩ := hv
  have hx := B.exec
  have hb := B.bytes
  have hr := B.returns
  have hts := atoms_spec (ws := wqL_seed) B.pre
  have hown : s.vm.findClass RL = some m.cls := findClass_of_methodNamed B.named
  have hlocks := B.notSynchronized
  subst hsz
  have hD := hD0.self (sz := s.heap.size)
  generalize hAe : va_A [] s.heap.size = A at hD hG hT ⊢
  have hA : ∀ q : Nat, s.heap.size ≤ q → A q := fun q h => by rw [← hAe]; exact Or.inr h
  have hS : va_S A s.heap s.heap [] := va_S.rf
  have hrc : (headSpec wqL_seed ({ frames := 0, cells := 1, slots := 2, locals := 0 })).room.cells = 1 := rfl
  have hrs : (headSpec wqL_seed ({ frames := 0, cells := 1, slots := 2, locals := 0 })).room.slots = 2 := rfl
  have hl := lv_entry ([.ref a_s_]) (n := 3) (Nat.le_of_ble_eq_true rfl)
  rw [lg_entry_eq]
  generalize (lg_sl ([.ref a_s_]) ++ List.replicate (3 - (lg_sl ([.ref a_s_])).length) Slot.unset).toArray = ls at hl ⊢
  have hl : lv_has ls 3 [(0, .ref a_s_)] := hl
  unfold wp_L_seed_x at hw
  have hnaint := hts (Cond.arrayClass .int) (aw_l aw_1_57)
  have hk9 := hts (Jvm.Cond.constant RL 9 987654321) (aw_l aw_2_212)
  have hk10 := hts (Jvm.Cond.constant RL 10 16777619) (aw_l aw_2_213)
  have hk11 := hts (Jvm.Cond.constant RL 11 1103515245) (aw_l aw_2_214)
  refine lv_iconst (v := 2) hx hb dL_seed_0 (by decide) ?_
  refine va_newa (atype := .int) (a0 := (2, .inl (fun _ => 0))) hx hb hnaint rfl hK hP hD hS hA (fun _ => rfl) (by decide) (N' := 2) (by decide) (Nat.le_of_ble_eq_true rfl) (by rw [hrc]; omega) (by rw [hrs]; omega) dL_seed_1 (fun a_q_1 cA_3 H_2 hK9 hP hD hS => ?_)
  obtain rfl : g 0 = cA_3 := K_one hK9 0 5 rfl rfl
  obtain ⟨hP, hD⟩ := seg_join [] [[(a_q_1, .inl (g 0, 2, .inl (fun _ => 0)))]] [[(a_q_1, .inl (g 0, 2, .inl (fun _ => 0)))]] 1 [0] rfl rfl (by decide) hP hD
  have hP : va_P (dC, dI) vwCl [(a_q_1, .inl (g 0, 2, .inl (fun _ => 0)))] H_2 := hP
  have hD : va_D A [(a_q_1, .inl (g 0, 2, .inl (fun _ => 0)))] := hD
  refine W.widen (k := 1) (n := 2) (by omega) (by omega) ?_
  refine lv_dup hx hb dL_seed_3 rfl ?_
  refine lv_iconst (v := 0) hx hb dL_seed_4 (by decide) ?_
  refine lv_aload_n hx hb dL_seed_5 rfl (lv_at hl 0 rfl) ?_
  refine va_tlen hx hb hT hS (v := nI s__n) rfl dL_seed_6 ?_
  refine lv_sipush (v := 12345) hx hb dL_seed_7 (by decide) ?_
  refine lv_iadd hx hb dL_seed_10 ?_
  refine lv_topi (fun x_4 ex_4 => ?_)
  have hw := hw x_4 ex_4
  refine va_iast hx hb hK hP hD hS 0 0 rfl rfl (by unfold vp_in; decide) dL_seed_11 (fun H_5 L_6 hP hD hS => ?_)
  have hP : va_P (dC, dI) vwCl [(a_q_1, .inl (g 0, 2, .inl (upd (fun _ => 0) (0 : Int32).toNatClampNeg x_4)))] H_5 := hP
  have hD : va_D A [(a_q_1, .inl (g 0, 2, .inl (upd (fun _ => 0) (0 : Int32).toNatClampNeg x_4)))] := hD
  refine lv_dup hx hb dL_seed_12 rfl ?_
  refine lv_iconst (v := 1) hx hb dL_seed_13 (by decide) ?_
  refine lv_ldc hx hb hown hk9 dL_seed_14 ?_
  refine va_iast hx hb hK hP hD hS 0 0 rfl rfl (by unfold vp_in; decide) dL_seed_16 (fun H_7 L_8 hP hD hS => ?_)
  have hP : va_P (dC, dI) vwCl [(a_q_1, .inl (g 0, 2, .inl (upd (upd (fun _ => 0) (0 : Int32).toNatClampNeg x_4) (1 : Int32).toNatClampNeg 987654321)))] H_7 := hP
  have hD : va_D A [(a_q_1, .inl (g 0, 2, .inl (upd (upd (fun _ => 0) (0 : Int32).toNatClampNeg x_4) (1 : Int32).toNatClampNeg 987654321)))] := hD
  refine lv_astore_n (lv' := [(1, .ref a_q_1), (0, .ref a_s_)]) hx hb dL_seed_17 rfl hl (by decide) rfl (fun ls hl => ?_)
  refine lv_iconst (v := 0) hx hb dL_seed_18 (by decide) ?_
  refine lv_istore_n (lv' := [(2, .int 0), (1, .ref a_q_1), (0, .ref a_s_)]) hx hb dL_seed_19 rfl hl (by decide) rfl (fun ls hl => ?_)
  refine W_abs (fun QM hQM => ?_)
  have EX20_67 : ∀ (q1_11 : Nat → Int32) (H : Heap) (locs : List Loc), (wx_L_seed_x_20_67 Q) q1_11 → va_P (dC, dI) vwCl [(a_q_1, .inl (g 0, 2, .inl q1_11))] H → va_D A [(a_q_1, .inl (g 0, 2, .inl q1_11))] → va_S A s.heap H locs → ∀ (ls : Array Slot), lv_has ls 3 [(1, .ref a_q_1)] → W p l e (headSpec wqL_seed ({ frames := 0, cells := 1, slots := 2, locals := 0 })).room s m ([.ref a_s_] : List Value).toArray below meth c H locs 1 2 QM (F0 m 67 ls []) := by
    intro q1_11 H locs hw hP hD hS ls hl
    refine lv_aload_n hx hb dL_seed_67 rfl (lv_at hl 0 rfl) ?_
    refine W.widen (k := 1) (n := 2) (by omega) (by omega) ?_
    subst hQM
    exact W.aret (v := .ref a_q_1) hx hb hr (Or.inr ⟨_, rfl⟩) (Or.inr ⟨_, rfl⟩) (fun t ht hW => ⟨⟨some a_q_1, (a_q_1, 2, q1_11, ()), rfl, ⟨rfl, hw⟩, ⟨P_at ht hP, hD⟩⟩, hS.F ht⟩) hS.2.2 dL_seed_68
  have LOOP20 : ∀ (n20 : Nat) (v2_9 : Int32) (q1_10 : Nat → Int32) (H : Heap) (locs : List Loc), wl_L_seed_x_20 s__n s__f (wx_L_seed_x_20_67 Q) n20 v2_9 q1_10 → va_P (dC, dI) vwCl [(a_q_1, .inl (g 0, 2, .inl q1_10))] H → va_D A [(a_q_1, .inl (g 0, 2, .inl q1_10))] → va_S A s.heap H locs → ∀ (ls : Array Slot), lv_has ls 3 [(0, .ref a_s_), (1, .ref a_q_1), (2, .int v2_9)] → W p l e (headSpec wqL_seed ({ frames := 0, cells := 1, slots := 2, locals := 0 })).room s m ([.ref a_s_] : List Value).toArray below meth c H locs 1 2 QM (F0 m 20 ls []) := by
    intro n20
    induction n20 with
    | zero =>
      intro v2_9 q1_10 H locs hw hP hD hS ls hl
      exact False.elim hw
    | succ n20 ih20 =>
      intro v2_9 q1_10 H locs hw hP hD hS ls hl
      rw [wl_L_seed_x_20_s] at hw
      refine lv_iload_n hx hb dL_seed_20 rfl (lv_at hl 2 rfl) ?_
      refine lv_aload_n hx hb dL_seed_21 rfl (lv_at hl 0 rfl) ?_
      refine va_tlen hx hb hT hS (v := nI s__n) rfl dL_seed_22 ?_
      refine lv_icmp_ge (tgt := 67) hx hb dL_seed_23 (by decide) (fun c_12 => ?_) (fun c_12 => ?_)
      · have hw := hw.1 c_12
        refine W.widen (k := 1) (n := 2) (by omega) (by omega) ?_
        exact EX20_67 q1_10 _ _ hw hP hD hS _ (lv_sub hl [1] rfl)
      · have hw := hw.2 c_12
        refine lv_aload_n hx hb dL_seed_26 rfl (lv_at hl 1 rfl) ?_
        refine lv_iconst (v := 0) hx hb dL_seed_27 (by decide) ?_
        refine lv_aload_n hx hb dL_seed_28 rfl (lv_at hl 1 rfl) ?_
        refine lv_iconst (v := 0) hx hb dL_seed_29 (by decide) ?_
        refine va_iald hx hb hK hP 0 0 rfl rfl (by unfold vp_in; decide) dL_seed_30 ?_
        refine lv_topi (fun x_13 ex_13 => ?_)
        have hw := hw x_13 ex_13
        refine lv_aload_n hx hb dL_seed_31 rfl (lv_at hl 0 rfl) ?_
        refine lv_iload_n hx hb dL_seed_32 rfl (lv_at hl 2 rfl) ?_
        obtain ⟨hi_14, hw⟩ := hw
        refine va_ti hx hb hT hS (i := v2_9) hi_14 (v := .int (s__f v2_9.toNatClampNeg)) rfl dL_seed_33 ?_
        refine lv_topi (fun x_15 ex_15 => ?_)
        have hw := hw x_15 ex_15
        refine lv_ixor hx hb dL_seed_34 ?_
        refine lv_topi (fun x_16 ex_16 => ?_)
        have hw := hw x_16 ex_16
        refine lv_ldc hx hb hown hk10 dL_seed_35 ?_
        refine lv_imul hx hb dL_seed_37 ?_
        refine lv_topi (fun x_17 ex_17 => ?_)
        have hw := hw x_17 ex_17
        refine lv_iload_n hx hb dL_seed_38 rfl (lv_at hl 2 rfl) ?_
        refine lv_iadd hx hb dL_seed_39 ?_
        refine lv_topi (fun x_18 ex_18 => ?_)
        have hw := hw x_18 ex_18
        refine va_iast hx hb hK hP hD hS 0 0 rfl rfl (by unfold vp_in; decide) dL_seed_40 (fun H_19 L_20 hP hD hS => ?_)
        have hP : va_P (dC, dI) vwCl [(a_q_1, .inl (g 0, 2, .inl (upd q1_10 (0 : Int32).toNatClampNeg x_18)))] H_19 := hP
        have hD : va_D A [(a_q_1, .inl (g 0, 2, .inl (upd q1_10 (0 : Int32).toNatClampNeg x_18)))] := hD
        refine lv_aload_n hx hb dL_seed_41 rfl (lv_at hl 1 rfl) ?_
        refine lv_iconst (v := 1) hx hb dL_seed_42 (by decide) ?_
        refine lv_aload_n hx hb dL_seed_43 rfl (lv_at hl 1 rfl) ?_
        refine lv_iconst (v := 1) hx hb dL_seed_44 (by decide) ?_
        refine va_iald hx hb hK hP 0 0 rfl rfl (by unfold vp_in; decide) dL_seed_45 ?_
        refine lv_topi (fun x_21 ex_21 => ?_)
        have hw := hw x_21 ex_21
        refine lv_aload_n hx hb dL_seed_46 rfl (lv_at hl 0 rfl) ?_
        refine lv_iload_n hx hb dL_seed_47 rfl (lv_at hl 2 rfl) ?_
        obtain ⟨hi_22, hw⟩ := hw
        refine va_ti hx hb hT hS (i := v2_9) hi_22 (v := .int (s__f v2_9.toNatClampNeg)) rfl dL_seed_48 ?_
        refine lv_topi (fun x_23 ex_23 => ?_)
        have hw := hw x_23 ex_23
        refine lv_iadd hx hb dL_seed_49 ?_
        refine lv_topi (fun x_24 ex_24 => ?_)
        have hw := hw x_24 ex_24
        refine lv_ldc hx hb hown hk11 dL_seed_50 ?_
        refine lv_imul hx hb dL_seed_52 ?_
        refine lv_topi (fun x_25 ex_25 => ?_)
        have hw := hw x_25 ex_25
        refine lv_aload_n hx hb dL_seed_53 rfl (lv_at hl 1 rfl) ?_
        refine lv_iconst (v := 0) hx hb dL_seed_54 (by decide) ?_
        refine va_iald hx hb hK hP 0 0 rfl rfl (by unfold vp_in; decide) dL_seed_55 ?_
        refine lv_topi (fun x_26 ex_26 => ?_)
        have hw := hw x_26 ex_26
        refine lv_bipush (v := 7) hx hb dL_seed_56 (by decide) ?_
        refine lv_iushr hx hb dL_seed_58 rfl ?_
        refine lv_topi (fun x_27 ex_27 => ?_)
        have hw := hw x_27 ex_27
        refine lv_iadd hx hb dL_seed_59 ?_
        refine lv_topi (fun x_28 ex_28 => ?_)
        have hw := hw x_28 ex_28
        refine va_iast hx hb hK hP hD hS 0 0 rfl rfl (by unfold vp_in; decide) dL_seed_60 (fun H_29 L_30 hP hD hS => ?_)
        have hP : va_P (dC, dI) vwCl [(a_q_1, .inl (g 0, 2, .inl (upd (upd q1_10 (0 : Int32).toNatClampNeg x_18) (1 : Int32).toNatClampNeg x_28)))] H_29 := hP
        have hD : va_D A [(a_q_1, .inl (g 0, 2, .inl (upd (upd q1_10 (0 : Int32).toNatClampNeg x_18) (1 : Int32).toNatClampNeg x_28)))] := hD
        obtain ⟨x_31, ex_31⟩ : ∃ y : Int32, y = v2_9 + 1 := ⟨_, rfl⟩
        have hw := hw x_31 ex_31
        refine lv_iinc (v := x_31) (lv' := [(2, .int x_31), (0, .ref a_s_), (1, .ref a_q_1)]) hx hb dL_seed_61 hl (k := 2) rfl (by rw [ex_31]; rfl) (by decide) rfl (fun ls hl => ?_)
        refine lv_goto (tgt := 20) hx hb dL_seed_64 (by decide) ?_
        refine W.widen (k := 1) (n := 2) (by omega) (by omega) ?_
        exact ih20 x_31 (upd (upd q1_10 (0 : Int32).toNatClampNeg x_18) (1 : Int32).toNatClampNeg x_28) _ _ hw hP hD hS _ (lv_sub hl [1, 2, 0] rfl)
  obtain ⟨n20, hw⟩ := hw
  refine W.widen (k := 1) (n := 2) (by omega) (by omega) ?_
  exact LOOP20 n20 0 (upd (upd (fun _ => 0) (0 : Int32).toNatClampNeg x_4) (1 : Int32).toNatClampNeg 987654321) _ _ hw hP hD hS _ (lv_sub hl [2, 1, 0] rfl)
