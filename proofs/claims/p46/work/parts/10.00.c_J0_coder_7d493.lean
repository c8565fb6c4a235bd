theorem dJ0_coder_7d493_0 : decode cJ0_coder_7d493 0 = .ok (.getstatic 38, 3) := by decide +kernel
theorem dJ0_coder_7d493_3 : decode cJ0_coder_7d493 3 = .ok (.ifCond .eq 10, 3) := by decide +kernel
theorem dJ0_coder_7d493_6 : decode cJ0_coder_7d493 6 = .ok (.aload_n 0, 1) := by decide +kernel
theorem dJ0_coder_7d493_7 : decode cJ0_coder_7d493 7 = .ok (.getfield 15, 3) := by decide +kernel
theorem dJ0_coder_7d493_10 : decode cJ0_coder_7d493 10 = .ok (.goto 4, 3) := by decide +kernel
theorem dJ0_coder_7d493_14 : decode cJ0_coder_7d493 14 = .ok (.ireturn, 1) := by decide +kernel

set_option maxHeartbeats 8000000 in
set_option maxRecDepth 100000 in
theorem c_J0_coder_7d493 (l : Launch) (dC : Nat → ClassId) (dI : Nat → Nat → Nat) (g : Nat → ClassId) (a_this_ this__n : Nat) (this__f : Nat → Int32) (Q : Int32 → Prop) (hw : wp_J0_coder_7d493 Q) (sz : Nat) : Met l yJ0_coder_7d493 wqJ0_coder_7d493 ({ frames := 0, cells := 0, slots := 0, locals := 0 }) (va_Pc [.ref a_this_] (PX (GSb this__n this__f a_this_) (dC, dI) g [] sz)) (va_Qi (fun (r : Int32) (u : Unit) => Q r) (fun (u : Unit) t9 => va_P (dC, dI) vwCl [] t9.heap ∧ va_D (va_A [] sz) []) (va_A [] sz)) 0 0 (va_A [] sz) := by
  refine Met.ofW (cc := cJ0_coder_7d493) (maxL := 1) (ret := (some .byte)) (by decide) rfl ?_
  intro p e s m args below meth c s₁ B hml hv
  obtain ⟨rfl, ⟨hsz, hP, hK, hD0, hG⟩, hT⟩ := hv
  have hx := B.exec
  have hb := B.bytes
  have hr := B.returns
  have hts := atoms_spec (ws := wqJ0_coder_7d493) B.pre
  have hown : s.vm.findClass RJ0 = some m.cls := findClass_of_methodNamed B.named
  have hlocks := B.notSynchronized
  subst hsz
  have hD := hD0.self (sz := s.heap.size)
  generalize hAe : va_A [] s.heap.size = A at hD hG hT ⊢
  have hA : ∀ q : Nat, s.heap.size ≤ q → A q := fun q h => by rw [← hAe]; exact Or.inr h
  have hS : va_S A s.heap s.heap [] := va_S.rf
  have hrc : (headSpec wqJ0_coder_7d493 ({ frames := 0, cells := 0, slots := 0, locals := 0 })).room.cells = 0 := rfl
  have hrs : (headSpec wqJ0_coder_7d493 ({ frames := 0, cells := 0, slots := 0, locals := 0 })).room.slots = 0 := rfl
  have hl := lv_entry ([.ref a_this_]) (n := 1) (Nat.le_of_ble_eq_true rfl)
  rw [lg_entry_eq]
  generalize (lg_sl ([.ref a_this_]) ++ List.replicate (1 - (lg_sl ([.ref a_this_])).length) Slot.unset).toArray = ls at hl ⊢
  have hl : lv_has ls 1 [(0, .ref a_this_)] := hl
  unfold wp_J0_coder_7d493 at hw
  have hf38 := hts (Cond.fieldLink RJ0 38 "java/lang/String" "COMPACT_STRINGS" "Z") (aw_l aw_5_88)
  have hf15 := hts (Cond.fieldLink RJ0 15 "java/lang/String" "coder" "B") (aw_l aw_7_108)
  obtain ⟨v9, hO9, hC9, hV9, hY9⟩ := id hT
  refine va_gets hx hb (cs_z hG) hS hown hf38 (fun _ h9 => h9) dJ0_coder_7d493_0 ?_
  refine lv_if_eq (tgt := 13) hx hb dJ0_coder_7d493_3 (by decide) (fun c_1 => absurd c_1 (by decide)) (fun _ => ?_)
  refine lv_aload_n hx hb dJ0_coder_7d493_6 rfl (lv_at hl 0 rfl) ?_
  refine vk_getf hx hb hC9 hS hown hf15 (fun _ h9 => h9) dJ0_coder_7d493_7 ?_
  refine lv_goto (tgt := 14) hx hb dJ0_coder_7d493_10 (by decide) ?_
  refine W.widen (k := 0) (n := 0) (by omega) (by omega) ?_
  exact W.zret (v := 0) hx hb hr rfl (fun t ht hW => ⟨⟨0, (()), rfl, hw, ⟨P_at ht hP, hD⟩⟩, hS.F ht⟩) hS.2.2 dJ0_coder_7d493_14
theorem dJ0_isLatin1_aae02_0 : decode cJ0_isLatin1_aae02 0 = .ok (.getstatic 38, 3) := by decide +kernel
theorem dJ0_isLatin1_aae02_3 : decode cJ0_isLatin1_aae02 3 = .ok (.ifCond .eq 14, 3) := by decide +kernel
theorem dJ0_isLatin1_aae02_6 : decode cJ0_isLatin1_aae02 6 = .ok (.aload_n 0, 1) := by decide +kernel
theorem dJ0_isLatin1_aae02_7 : decode cJ0_isLatin1_aae02 7 = .ok (.getfield 15, 3) := by decide +kernel
theorem dJ0_isLatin1_aae02_10 : decode cJ0_isLatin1_aae02 10 = .ok (.ifCond .ne 7, 3) := by decide +kernel
theorem dJ0_isLatin1_aae02_13 : decode cJ0_isLatin1_aae02 13 = .ok (.iconst 1, 1) := by decide +kernel
theorem dJ0_isLatin1_aae02_14 : decode cJ0_isLatin1_aae02 14 = .ok (.goto 4, 3) := by decide +kernel
theorem dJ0_isLatin1_aae02_18 : decode cJ0_isLatin1_aae02 18 = .ok (.ireturn, 1) := by decide +kernel

set_option maxHeartbeats 8000000 in
set_option maxRecDepth 100000 in
theorem c_J0_isLatin1_aae02 (l : Launch) (dC : Nat → ClassId) (dI : Nat → Nat → Nat) (g : Nat → ClassId) (a_this_ this__n : Nat) (this__f : Nat → Int32) (Q : Bool → Prop) (hw : wp_J0_isLatin1_aae02 Q) (sz : Nat) : Met l yJ0_isLatin1_aae02 wqJ0_isLatin1_aae02 ({ frames := 0, cells := 0, slots := 0, locals := 0 }) (va_Pc [.ref a_this_] (PX (GSb this__n this__f a_this_) (dC, dI) g [] sz)) (va_Qi (fun (r : Int32) (u : Unit) => ∃ b : Bool, r = b2i b ∧ (Q b)) (fun (u : Unit) t9 => va_P (dC, dI) vwCl [] t9.heap ∧ va_D (va_A [] sz) []) (va_A [] sz)) 0 0 (va_A [] sz) := by
  refine Met.ofW (cc := cJ0_isLatin1_aae02) (maxL := 1) (ret := (some .boolean)) (by decide) rfl ?_
  intro p e s m args below meth c s₁ B hml hv
  obtain ⟨rfl, ⟨hsz, hP, hK, hD0, hG⟩, hT⟩ := hv
  have hx := B.exec
  have hb := B.bytes
  have hr := B.returns
  have hts := atoms_spec (ws := wqJ0_isLatin1_aae02) B.pre
  have hown : s.vm.findClass RJ0 = some m.cls := findClass_of_methodNamed B.named
  have hlocks := B.notSynchronized
  subst hsz
  have hD := hD0.self (sz := s.heap.size)
  generalize hAe : va_A [] s.heap.size = A at hD hG hT ⊢
  have hA : ∀ q : Nat, s.heap.size ≤ q → A q := fun q h => by rw [← hAe]; exact Or.inr h
  have hS : va_S A s.heap s.heap [] := va_S.rf
  have hrc : (headSpec wqJ0_isLatin1_aae02 ({ frames := 0, cells := 0, slots := 0, locals := 0 })).room.cells = 0 := rfl
  have hrs : (headSpec wqJ0_isLatin1_aae02 ({ frames := 0, cells := 0, slots := 0, locals := 0 })).room.slots = 0 := rfl
  have hl := lv_entry ([.ref a_this_]) (n := 1) (Nat.le_of_ble_eq_true rfl)
  rw [lg_entry_eq]
  generalize (lg_sl ([.ref a_this_]) ++ List.replicate (1 - (lg_sl ([.ref a_this_])).length) Slot.unset).toArray = ls at hl ⊢
  have hl : lv_has ls 1 [(0, .ref a_this_)] := hl
  unfold wp_J0_isLatin1_aae02 at hw
  have hf38 := hts (Cond.fieldLink RJ0 38 "java/lang/String" "COMPACT_STRINGS" "Z") (aw_l aw_5_88)
  have hf15 := hts (Cond.fieldLink RJ0 15 "java/lang/String" "coder" "B") (aw_l aw_7_108)
  obtain ⟨v9, hO9, hC9, hV9, hY9⟩ := id hT
  refine va_gets hx hb (cs_z hG) hS hown hf38 (fun _ h9 => h9) dJ0_isLatin1_aae02_0 ?_
  refine lv_if_eq (tgt := 17) hx hb dJ0_isLatin1_aae02_3 (by decide) (fun c_1 => absurd c_1 (by decide)) (fun _ => ?_)
  refine lv_aload_n hx hb dJ0_isLatin1_aae02_6 rfl (lv_at hl 0 rfl) ?_
  refine vk_getf hx hb hC9 hS hown hf15 (fun _ h9 => h9) dJ0_isLatin1_aae02_7 ?_
  refine lv_if_ne (tgt := 17) hx hb dJ0_isLatin1_aae02_10 (by decide) (fun c_2 => absurd c_2 (by decide)) (fun _ => ?_)
  refine lv_iconst (v := 1) hx hb dJ0_isLatin1_aae02_13 (by decide) ?_
  refine lv_goto (tgt := 18) hx hb dJ0_isLatin1_aae02_14 (by decide) ?_
  refine W.widen (k := 0) (n := 0) (by omega) (by omega) ?_
  exact W.zret (v := 1) hx hb hr rfl (fun t ht hW => ⟨⟨_, (()), rfl, ⟨true, rfl, hw⟩, ⟨P_at ht hP, hD⟩⟩, hS.F ht⟩) hS.2.2 dJ0_isLatin1_aae02_18
theorem dJ0_length_8abf5_0 : decode cJ0_length_8abf5 0 = .ok (.aload_n 0, 1) := by decide +kernel
theorem dJ0_length_8abf5_1 : decode cJ0_length_8abf5 1 = .ok (.getfield 9, 3) := by decide +kernel
theorem dJ0_length_8abf5_4 : decode cJ0_length_8abf5 4 = .ok (.arraylength, 1) := by decide +kernel
theorem dJ0_length_8abf5_5 : decode cJ0_length_8abf5 5 = .ok (.aload_n 0, 1) := by decide +kernel
theorem dJ0_length_8abf5_6 : decode cJ0_length_8abf5 6 = .ok (.invokevirtual 335, 3) := by decide +kernel
theorem dJ0_length_8abf5_9 : decode cJ0_length_8abf5 9 = .ok (.ishr, 1) := by decide +kernel
theorem dJ0_length_8abf5_10 : decode cJ0_length_8abf5 10 = .ok (.ireturn, 1) := by decide +kernel

set_option maxHeartbeats 8000000 in
set_option maxRecDepth 100000 in
theorem c_J0_length_8abf5 (l : Launch) (dC : Nat → ClassId) (dI : Nat → Nat → Nat) (g : Nat → ClassId) (a_this_ this__n : Nat) (this__f : Nat → Int32) (Q : Int32 → Prop) (hw : wp_J0_length_8abf5 this__n Q) (sz : Nat) : Met l yJ0_length_8abf5 wqJ0_length_8abf5 ({ frames := 1, cells := 0, slots := 0, locals := 20 }) (va_Pc [.ref a_this_] (PX (GSb this__n this__f a_this_) (dC, dI) g [] sz)) (va_Qi (fun (r : Int32) (u : Unit) => Q r) (fun (u : Unit) t9 => va_P (dC, dI) vwCl [] t9.heap ∧ va_D (va_A [] sz) []) (va_A [] sz)) 0 0 (va_A [] sz) := by
  refine Met.ofW (cc := cJ0_length_8abf5) (maxL := 1) (ret := (some .int)) (by decide) rfl ?_
  intro p e s m args below meth c s₁ B hml hv
  obtain ⟨rfl, ⟨hsz, hP, hK, hD0, hG⟩, hT⟩ := hv
  have hx := B.exec
  have hb := B.bytes
  have hr := B.returns
  have hts := atoms_spec (ws := wqJ0_length_8abf5) B.pre
  have hown : s.vm.findClass RJ0 = some m.cls := findClass_of_methodNamed B.named
  have hlocks := B.notSynchronized
  subst hsz
  have hD := hD0.self (sz := s.heap.size)
  generalize hAe : va_A [] s.heap.size = A at hD hG hT ⊢
  have hA : ∀ q : Nat, s.heap.size ≤ q → A q := fun q h => by rw [← hAe]; exact Or.inr h
  have hS : va_S A s.heap s.heap [] := va_S.rf
  have hrc : (headSpec wqJ0_length_8abf5 ({ frames := 1, cells := 0, slots := 0, locals := 20 })).room.cells = 0 := rfl
  have hrs : (headSpec wqJ0_length_8abf5 ({ frames := 1, cells := 0, slots := 0, locals := 20 })).room.slots = 0 := rfl
  have hl := lv_entry ([.ref a_this_]) (n := 1) (Nat.le_of_ble_eq_true rfl)
  rw [lg_entry_eq]
  generalize (lg_sl ([.ref a_this_]) ++ List.replicate (1 - (lg_sl ([.ref a_this_])).length) Slot.unset).toArray = ls at hl ⊢
  have hl : lv_has ls 1 [(0, .ref a_this_)] := hl
  unfold wp_J0_length_8abf5 at hw
  have hf9 := hts (Cond.fieldLink RJ0 9 "java/lang/String" "value" "[B") (aw_l aw_7_107)
  obtain ⟨v9, hO9, hC9, hV9, hY9⟩ := id hT
  refine lv_aload_n hx hb dJ0_length_8abf5_0 rfl (lv_at hl 0 rfl) ?_
  refine vk_getf hx hb hV9 hS hown hf9 (fun _ h9 => h9) dJ0_length_8abf5_1 ?_
  refine va_tlen hx hb hY9 hS (v := nI this__n) rfl dJ0_length_8abf5_4 ?_
  refine lv_aload_n hx hb dJ0_length_8abf5_5 rfl (lv_at hl 0 rfl) ?_
  have hPs : va_P (dC, dI) vwCl (wcat [] ++ wcat []) s.heap := by rw [show wcat [] = [] from rfl, List.append_nil]; exact hP
  have hDs : va_D A (wcat [] ++ wcat []) := by rw [show wcat [] = [] from rfl, List.append_nil]; exact hD
  have hPc : va_P (dC, dI) vwCl [] s.heap := P_r hPs
  have hDc : va_D A [] := D_r hDs
  have hFc : ∀ q, va_A [] s.heap.size q → A q := A_all hDc hA hS.1
  refine va_calli (va_runV (As := []) (rest := [.int (nI this__n)]) ⟨hx, hb, hml, hown, hts⟩ (c_J0_coder_7d493 l dC dI g (a_this_ := a_this_) (this__n := this__n) (this__f := this__f) (hw := hw) (sz := s.heap.size)) (cwV 0 hts (gqV aw_5_84 aw_5_85 aw_5_86 aw_1_21 aw_5_87) rfl rfl rfl (by decide +kernel) ⟨Nat.le_of_ble_eq_true rfl, Nat.le_of_ble_eq_true rfl⟩) ⟨PX_blind (GSb_go this__n this__f a_this_), GSb_recv hT hS, PX_call (GSb_go this__n this__f a_this_) hK hG hS hPc hDc hFc hT⟩ rfl rfl hl.1 rfl (lv_room (Nat.le_of_ble_eq_true rfl)) dJ0_length_8abf5_6 ⟨by rw [hrc]; omega, by rw [hrs]; omega⟩) hS (fun q _ h => hFc q h) hFc (fun r_2 u_2 t_2 H_2 L_2 ht_2 hvm_2 hw_2 hB_2 hz_2 hk_2 hS => ?_)
  have hw := hw_2
  obtain ⟨rfl, hw⟩ := hw
  rw [ht_2] at hB_2
  obtain ⟨hP1, hD1⟩ := hB_2
  obtain ⟨hP, hD⟩ := join_r hPs hDs hk_2 hFc hP1 hD1
  rw [List.append_nil] at hP hD
  have hP : va_P (dC, dI) vwCl [] H_2 := hP
  have hD : va_D A [] := hD
  refine W.widen (k := 0) (n := 0) (by omega) (by omega) ?_
  refine lv_ishr hx hb dJ0_length_8abf5_9 ?_
  refine lv_topi (fun x_3 ex_3 => ?_)
  have hw := hw x_3 ex_3
  refine W.widen (k := 0) (n := 0) (by omega) (by omega) ?_
  exact W.iret (v := x_3) hx hb hr (fun t ht hW => ⟨⟨x_3, (()), rfl, hw, ⟨P_at ht hP, hD⟩⟩, hS.F ht⟩) hS.2.2 dJ0_length_8abf5_10
theorem dJ3_checkIndex_8e157_0 : decode cJ3_checkIndex_8e157 0 = .ok (.iload_n 0, 1) := by decide +kernel
theorem dJ3_checkIndex_8e157_1 : decode cJ3_checkIndex_8e157 1 = .ok (.ifCond .lt 8, 3) := by decide +kernel
theorem dJ3_checkIndex_8e157_4 : decode cJ3_checkIndex_8e157 4 = .ok (.iload_n 0, 1) := by decide +kernel
theorem dJ3_checkIndex_8e157_5 : decode cJ3_checkIndex_8e157 5 = .ok (.iload_n 1, 1) := by decide +kernel
theorem dJ3_checkIndex_8e157_6 : decode cJ3_checkIndex_8e157 6 = .ok (.if_icmp .lt 10, 3) := by decide +kernel
theorem dJ3_checkIndex_8e157_16 : decode cJ3_checkIndex_8e157 16 = .ok (.iload_n 0, 1) := by decide +kernel
theorem dJ3_checkIndex_8e157_17 : decode cJ3_checkIndex_8e157 17 = .ok (.ireturn, 1) := by decide +kernel

set_option maxHeartbeats 8000000 in
set_option maxRecDepth 100000 in
theorem c_J3_checkIndex_8e157_n (l : Launch) (dC : Nat → ClassId) (dI : Nat → Nat → Nat) (g : Nat → ClassId) (k_ : Int32) (n_ : Int32) (Q : Int32 → Prop) (hw : wp_J3_checkIndex_8e157_n k_ n_ Q) (sz : Nat) : Met l yJ3_checkIndex_8e157 wqJ3_checkIndex_8e157 ({ frames := 0, cells := 0, slots := 0, locals := 0 }) (va_Pc [.int k_, .int n_, .null] (PG (dC, dI) g [] sz)) (va_Qi (fun (r : Int32) (u : Unit) => Q r) (fun (u : Unit) t9 => va_P (dC, dI) vwCl [] t9.heap ∧ va_D (va_A [] sz) []) (va_A [] sz)) 0 0 (va_A [] sz) := by
  refine Met.ofW (cc := cJ3_checkIndex_8e157) (maxL := 3) (ret := (some .int)) (by decide) rfl ?_
  intro p e s m args below meth c s₁ B hml hv
  obtain ⟨rfl, hsz, hP, hK, hD0, hG⟩ := hv
  have hx := B.exec
  have hb := B.bytes
  have hr := B.returns
  have hts := atoms_spec (ws := wqJ3_checkIndex_8e157) B.pre
  have hown : s.vm.findClass RJ3 = some m.cls := findClass_of_methodNamed B.named
  have hlocks := B.notSynchronized
  subst hsz
  have hD := hD0.self (sz := s.heap.size)
  generalize hAe : va_A [] s.heap.size = A at hD hG ⊢
  have hA : ∀ q : Nat, s.heap.size ≤ q → A q := fun q h => by rw [← hAe]; exact Or.inr h
  have hS : va_S A s.heap s.heap [] := va_S.rf
  have hrc : (headSpec wqJ3_checkIndex_8e157 ({ frames := 0, cells := 0, slots := 0, locals := 0 })).room.cells = 0 := rfl
  have hrs : (headSpec wqJ3_checkIndex_8e157 ({ frames := 0, cells := 0, slots := 0, locals := 0 })).room.slots = 0 := rfl
  have hl := lv_entry ([.int k_, .int n_, .null]) (n := 3) (Nat.le_of_ble_eq_true rfl)
  rw [lg_entry_eq]
  generalize (lg_sl ([.int k_, .int n_, .null]) ++ List.replicate (3 - (lg_sl ([.int k_, .int n_, .null])).length) Slot.unset).toArray = ls at hl ⊢
  have hl : lv_has ls 3 [(0, .int k_), (1, .int n_), (2, .null)] := hl
  unfold wp_J3_checkIndex_8e157_n at hw
  refine lv_iload_n hx hb dJ3_checkIndex_8e157_0 rfl (lv_at hl 0 rfl) ?_
  refine W_abs (fun QM hQM => ?_)
  have JN9 : ∀  (H : Heap) (locs : List Loc), wj_J3_checkIndex_8e157_n_9  → va_P (dC, dI) vwCl [] H → va_D A [] → va_S A s.heap H locs → ∀ (ls : Array Slot), lv_has ls 3 [(0, .int k_), (1, .int n_), (2, .null)] → W p l e (headSpec wqJ3_checkIndex_8e157 ({ frames := 0, cells := 0, slots := 0, locals := 0 })).room s m ([.int k_, .int n_, .null] : List Value).toArray below meth c H locs 0 0 QM (F0 m 9 ls []) := by
    intro  H locs hw hP hD hS ls hl
    exact hw.elim
  refine lv_if_lt (tgt := 9) hx hb dJ3_checkIndex_8e157_1 (by decide) (fun c_1 => ?_) (fun c_1 => ?_)
  · have hw := hw.1 c_1
    refine W.widen (k := 0) (n := 0) (by omega) (by omega) ?_
    exact JN9  _ _ hw hP hD hS _ (lv_sub hl [0, 1, 2] rfl)
  · have hw := hw.2 c_1
    refine lv_iload_n hx hb dJ3_checkIndex_8e157_4 rfl (lv_at hl 0 rfl) ?_
    refine lv_iload_n hx hb dJ3_checkIndex_8e157_5 rfl (lv_at hl 1 rfl) ?_
    refine lv_icmp_lt (tgt := 16) hx hb dJ3_checkIndex_8e157_6 (by decide) (fun c_2 => ?_) (fun c_2 => ?_)
    · have hw := hw.1 c_2
      refine lv_iload_n hx hb dJ3_checkIndex_8e157_16 rfl (lv_at hl 0 rfl) ?_
      refine W.widen (k := 0) (n := 0) (by omega) (by omega) ?_
      subst hQM
      exact W.iret (v := k_) hx hb hr (fun t ht hW => ⟨⟨k_, (()), rfl, hw, ⟨P_at ht hP, hD⟩⟩, hS.F ht⟩) hS.2.2 dJ3_checkIndex_8e157_17
    · have hw := hw.2 c_2
      refine W.widen (k := 0) (n := 0) (by omega) (by omega) ?_
      exact JN9  _ _ hw hP hD hS _ (lv_sub hl [0, 1, 2] rfl)


set_option maxHeartbeats 8000000 in
set_option maxRecDepth 100000 in
theorem c_J3_checkIndex_8e157_r (l : Launch) (dC : Nat → ClassId) (dI : Nat → Nat → Nat) (g : Nat → ClassId) (k_ : Int32) (n_ : Int32) (a_fn_ : Nat) (Q : Int32 → Prop) (hw : wp_J3_checkIndex_8e157_r k_ n_ Q) (sz : Nat) : Met l yJ3_checkIndex_8e157 wqJ3_checkIndex_8e157 ({ frames := 0, cells := 0, slots := 0, locals := 0 }) (va_Pc [.int k_, .int n_, .ref a_fn_] (PG (dC, dI) g [] sz)) (va_Qi (fun (r : Int32) (u : Unit) => Q r) (fun (u : Unit) t9 => va_P (dC, dI) vwCl [] t9.heap ∧ va_D (va_A [] sz) []) (va_A [] sz)) 0 0 (va_A [] sz) := by
  refine Met.ofW (cc := cJ3_checkIndex_8e157) (maxL := 3) (ret := (some .int)) (by decide) rfl ?_
  intro p e s m args below meth c s₁ B hml hv
  obtain ⟨rfl, hsz, hP, hK, hD0, hG⟩ := hv
  have hx := B.exec
  have hb := B.bytes
  have hr := B.returns
  have hts := atoms_spec (ws := wqJ3_checkIndex_8e157) B.pre
  have hown : s.vm.findClass RJ3 = some m.cls := findClass_of_methodNamed B.named
  have hlocks := B.notSynchronized
  subst hsz
  have hD := hD0.self (sz := s.heap.size)
  generalize hAe : va_A [] s.heap.size = A at hD hG ⊢
  have hA : ∀ q : Nat, s.heap.size ≤ q → A q := fun q h => by rw [← hAe]; exact Or.inr h
  have hS : va_S A s.heap s.heap [] := va_S.rf
  have hrc : (headSpec wqJ3_checkIndex_8e157 ({ frames := 0, cells := 0, slots := 0, locals := 0 })).room.cells = 0 := rfl
  have hrs : (headSpec wqJ3_checkIndex_8e157 ({ frames := 0, cells := 0, slots := 0, locals := 0 })).room.slots = 0 := rfl
  have hl := lv_entry ([.int k_, .int n_, .ref a_fn_]) (n := 3) (Nat.le_of_ble_eq_true rfl)
  rw [lg_entry_eq]
  generalize (lg_sl ([.int k_, .int n_, .ref a_fn_]) ++ List.replicate (3 - (lg_sl ([.int k_, .int n_, .ref a_fn_])).length) Slot.unset).toArray = ls at hl ⊢
  have hl : lv_has ls 3 [(0, .int k_), (1, .int n_), (2, .ref a_fn_)] := hl
  unfold wp_J3_checkIndex_8e157_r at hw
  refine lv_iload_n hx hb dJ3_checkIndex_8e157_0 rfl (lv_at hl 0 rfl) ?_
  refine W_abs (fun QM hQM => ?_)
  have JN9 : ∀  (H : Heap) (locs : List Loc), wj_J3_checkIndex_8e157_r_9  → va_P (dC, dI) vwCl [] H → va_D A [] → va_S A s.heap H locs → ∀ (ls : Array Slot), lv_has ls 3 [(0, .int k_), (1, .int n_), (2, .ref a_fn_)] → W p l e (headSpec wqJ3_checkIndex_8e157 ({ frames := 0, cells := 0, slots := 0, locals := 0 })).room s m ([.int k_, .int n_, .ref a_fn_] : List Value).toArray below meth c H locs 0 0 QM (F0 m 9 ls []) := by
    intro  H locs hw hP hD hS ls hl
    exact hw.elim
  refine lv_if_lt (tgt := 9) hx hb dJ3_checkIndex_8e157_1 (by decide) (fun c_1 => ?_) (fun c_1 => ?_)
  · have hw := hw.1 c_1
    refine W.widen (k := 0) (n := 0) (by omega) (by omega) ?_
    exact JN9  _ _ hw hP hD hS _ (lv_sub hl [0, 1, 2] rfl)
  · have hw := hw.2 c_1
    refine lv_iload_n hx hb dJ3_checkIndex_8e157_4 rfl (lv_at hl 0 rfl) ?_
    refine lv_iload_n hx hb dJ3_checkIndex_8e157_5 rfl (lv_at hl 1 rfl) ?_
    refine lv_icmp_lt (tgt := 16) hx hb dJ3_checkIndex_8e157_6 (by decide) (fun c_2 => ?_) (fun c_2 => ?_)
    · have hw := hw.1 c_2
      refine lv_iload_n hx hb dJ3_checkIndex_8e157_16 rfl (lv_at hl 0 rfl) ?_
      refine W.widen (k := 0) (n := 0) (by omega) (by omega) ?_
      subst hQM
      exact W.iret (v := k_) hx hb hr (fun t ht hW => ⟨⟨k_, (()), rfl, hw, ⟨P_at ht hP, hD⟩⟩, hS.F ht⟩) hS.2.2 dJ3_checkIndex_8e157_17
    · have hw := hw.2 c_2
      refine W.widen (k := 0) (n := 0) (by omega) (by omega) ?_
      exact JN9  _ _ hw hP hD hS _ (lv_sub hl [0, 1, 2] rfl)
theorem dJ0_checkIndex_df160_0 : decode cJ0_checkIndex_df160 0 = .ok (.iload_n 0, 1) := by decide +kernel
theorem dJ0_checkIndex_df160_1 : decode cJ0_checkIndex_df160 1 = .ok (.iload_n 1, 1) := by decide +kernel
theorem dJ0_checkIndex_df160_2 : decode cJ0_checkIndex_df160 2 = .ok (.getstatic 1053, 3) := by decide +kernel
theorem dJ0_checkIndex_df160_5 : decode cJ0_checkIndex_df160 5 = .ok (.invokestatic 1059, 3) := by decide +kernel
theorem dJ0_checkIndex_df160_8 : decode cJ0_checkIndex_df160 8 = .ok (.pop, 1) := by decide +kernel
theorem dJ0_checkIndex_df160_9 : decode cJ0_checkIndex_df160 9 = .ok (.return_, 1) := by decide +kernel

set_option maxHeartbeats 8000000 in
set_option maxRecDepth 100000 in
theorem c_J0_checkIndex_df160 (l : Launch) (dC : Nat → ClassId) (dI : Nat → Nat → Nat) (g : Nat → ClassId) (k_ : Int32) (n_ : Int32) (Q : Prop) (hw : wp_J0_checkIndex_df160 k_ n_ Q) (sz : Nat) : Met l yJ0_checkIndex_df160 wqJ0_checkIndex_df160 ({ frames := 1, cells := 0, slots := 0, locals := 22 }) (va_Pc [.int k_, .int n_] (PG (dC, dI) g [] sz)) (va_Qv (fun (u : Unit) => Q) (fun (u : Unit) t9 => va_P (dC, dI) vwCl [] t9.heap ∧ va_D (va_A [] sz) []) (va_A [] sz)) 0 0 (va_A [] sz) := by
  refine Met.ofW (cc := cJ0_checkIndex_df160) (maxL := 2) (ret := none) (by decide) rfl ?_
  intro p e s m args below meth c s₁ B hml hv
  obtain ⟨rfl, hsz, hP, hK, hD0, hG⟩ := hv
  have hx := B.exec
  have hb := B.bytes
  have hr := B.returns
  have hts := atoms_spec (ws := wqJ0_checkIndex_df160) B.pre
  have hown : s.vm.findClass RJ0 = some m.cls := findClass_of_methodNamed B.named
  have hlocks := B.notSynchronized
  subst hsz
  have hD := hD0.self (sz := s.heap.size)
  generalize hAe : va_A [] s.heap.size = A at hD hG ⊢
  have hA : ∀ q : Nat, s.heap.size ≤ q → A q := fun q h => by rw [← hAe]; exact Or.inr h
  have hS : va_S A s.heap s.heap [] := va_S.rf
  have hrc : (headSpec wqJ0_checkIndex_df160 ({ frames := 1, cells := 0, slots := 0, locals := 22 })).room.cells = 0 := rfl
  have hrs : (headSpec wqJ0_checkIndex_df160 ({ frames := 1, cells := 0, slots := 0, locals := 22 })).room.slots = 0 := rfl
  have hl := lv_entry ([.int k_, .int n_]) (n := 2) (Nat.le_of_ble_eq_true rfl)
  rw [lg_entry_eq]
  generalize (lg_sl ([.int k_, .int n_]) ++ List.replicate (2 - (lg_sl ([.int k_, .int n_])).length) Slot.unset).toArray = ls at hl ⊢
  have hl : lv_has ls 2 [(0, .int k_), (1, .int n_)] := hl
  unfold wp_J0_checkIndex_df160 at hw
  have hf1053 := hts (Cond.fieldLink RJ0 1053 "jdk/internal/util/Preconditions" "SIOOBE_FORMATTER" "Ljava/util/function/BiFunction;") (aw_l aw_5_104)
  have hsf := sf_z hG
  refine lv_iload_n hx hb dJ0_checkIndex_df160_0 rfl (lv_at hl 0 rfl) ?_
  refine lv_iload_n hx hb dJ0_checkIndex_df160_1 rfl (lv_at hl 1 rfl) ?_
  rcases hsf with hz9 | ⟨o9, hz9⟩
  · have hw := hw.1
    refine va_gets hx hb hz9 hS hown hf1053 (fun _ h9 => h9) dJ0_checkIndex_df160_2 ?_
    have hPs : va_P (dC, dI) vwCl (wcat [] ++ wcat []) s.heap := by rw [show wcat [] = [] from rfl, List.append_nil]; exact hP
    have hDs : va_D A (wcat [] ++ wcat []) := by rw [show wcat [] = [] from rfl, List.append_nil]; exact hD
    have hPc : va_P (dC, dI) vwCl [] s.heap := P_r hPs
    have hDc : va_D A [] := D_r hDs
    have hFc : ∀ q, va_A [] s.heap.size q → A q := A_all hDc hA hS.1
    refine va_calli (va_runS (As := [.int k_, .int n_, .null]) (rest := []) ⟨hx, hb, hml, hown, hts⟩ (c_J3_checkIndex_8e157_n l dC dI g (k_ := k_) (n_ := n_) (hw := hw) (sz := s.heap.size)) (va_cwS 3 hts (gqS aw_5_106 aw_5_107 aw_1_23 aw_5_108) rfl rfl rfl (by decide +kernel) ⟨Nat.le_of_ble_eq_true rfl, Nat.le_of_ble_eq_true rfl⟩) ⟨PG_blind, PG_call hK hG hS hPc hDc hFc⟩ rfl rfl hl.1 rfl (lv_room (Nat.le_of_ble_eq_true rfl)) dJ0_checkIndex_df160_5 ⟨by rw [hrc]; omega, by rw [hrs]; omega⟩) hS (fun q _ h => hFc q h) hFc (fun r_2 u_2 t_2 H_2 L_2 ht_2 hvm_2 hw_2 hB_2 hz_2 hk_2 hS => ?_)
    have hw := hw_2
    rw [ht_2] at hB_2
    obtain ⟨hP1, hD1⟩ := hB_2
    obtain ⟨hP, hD⟩ := join_r hPs hDs hk_2 hFc hP1 hD1
    rw [List.append_nil] at hP hD
    have hP : va_P (dC, dI) vwCl [] H_2 := hP
    have hD : va_D A [] := hD
    refine W.widen (k := 0) (n := 0) (by omega) (by omega) ?_
    refine lv_pop hx hb dJ0_checkIndex_df160_8 rfl ?_
    refine W.widen (k := 0) (n := 0) (by omega) (by omega) ?_
    exact W.vret hx hb hr (fun t ht hW => ⟨⟨(()), rfl, hw, ⟨P_at ht hP, hD⟩⟩, hS.F ht⟩) hS.2.2 dJ0_checkIndex_df160_9
  · have hw := hw.2
    refine va_gets hx hb hz9 hS hown hf1053 (fun _ h9 => h9) dJ0_checkIndex_df160_2 ?_
    have hPs : va_P (dC, dI) vwCl (wcat [] ++ wcat []) s.heap := by rw [show wcat [] = [] from rfl, List.append_nil]; exact hP
    have hDs : va_D A (wcat [] ++ wcat []) := by rw [show wcat [] = [] from rfl, List.append_nil]; exact hD
    have hPc : va_P (dC, dI) vwCl [] s.heap := P_r hPs
    have hDc : va_D A [] := D_r hDs
    have hFc : ∀ q, va_A [] s.heap.size q → A q := A_all hDc hA hS.1
    refine va_calli (va_runS (As := [.int k_, .int n_, .ref o9]) (rest := []) ⟨hx, hb, hml, hown, hts⟩ (c_J3_checkIndex_8e157_r l dC dI g (k_ := k_) (n_ := n_) (a_fn_ := o9) (hw := hw) (sz := s.heap.size)) (va_cwS 3 hts (gqS aw_5_106 aw_5_107 aw_1_23 aw_5_108) rfl rfl rfl (by decide +kernel) ⟨Nat.le_of_ble_eq_true rfl, Nat.le_of_ble_eq_true rfl⟩) ⟨PG_blind, PG_call hK hG hS hPc hDc hFc⟩ rfl rfl hl.1 rfl (lv_room (Nat.le_of_ble_eq_true rfl)) dJ0_checkIndex_df160_5 ⟨by rw [hrc]; omega, by rw [hrs]; omega⟩) hS (fun q _ h => hFc q h) hFc (fun r_4 u_4 t_4 H_4 L_4 ht_4 hvm_4 hw_4 hB_4 hz_4 hk_4 hS => ?_)
    have hw := hw_4
    rw [ht_4] at hB_4
    obtain ⟨hP1, hD1⟩ := hB_4
    obtain ⟨hP, hD⟩ := join_r hPs hDs hk_4 hFc hP1 hD1
    rw [List.append_nil] at hP hD
    have hP : va_P (dC, dI) vwCl [] H_4 := hP
    have hD : va_D A [] := hD
    refine W.widen (k := 0) (n := 0) (by omega) (by omega) ?_
    refine lv_pop hx hb dJ0_checkIndex_df160_8 rfl ?_
    refine W.widen (k := 0) (n := 0) (by omega) (by omega) ?_
    exact W.vret hx hb hr (fun t ht hW => ⟨⟨(()), rfl, hw, ⟨P_at ht hP, hD⟩⟩, hS.F ht⟩) hS.2.2 dJ0_checkIndex_df160_9
theorem dJ1_charAt_3b067_0 : decode cJ1_charAt_3b067 0 = .ok (.iload_n 1, 1) := by decide +kernel
theorem dJ1_charAt_3b067_1 : decode cJ1_charAt_3b067 1 = .ok (.aload_n 0, 1) := by decide +kernel
theorem dJ1_charAt_3b067_2 : decode cJ1_charAt_3b067 2 = .ok (.arraylength, 1) := by decide +kernel
theorem dJ1_charAt_3b067_3 : decode cJ1_charAt_3b067 3 = .ok (.invokestatic 9, 3) := by decide +kernel
theorem dJ1_charAt_3b067_6 : decode cJ1_charAt_3b067 6 = .ok (.aload_n 0, 1) := by decide +kernel
theorem dJ1_charAt_3b067_7 : decode cJ1_charAt_3b067 7 = .ok (.iload_n 1, 1) := by decide +kernel
theorem dJ1_charAt_3b067_8 : decode cJ1_charAt_3b067 8 = .ok (.baload, 1) := by decide +kernel
theorem dJ1_charAt_3b067_9 : decode cJ1_charAt_3b067 9 = .ok (.sipush 255, 3) := by decide +kernel
theorem dJ1_charAt_3b067_12 : decode cJ1_charAt_3b067 12 = .ok (.iand, 1) := by decide +kernel
theorem dJ1_charAt_3b067_13 : decode cJ1_charAt_3b067 13 = .ok (.i2c, 1) := by decide +kernel
theorem dJ1_charAt_3b067_14 : decode cJ1_charAt_3b067 14 = .ok (.ireturn, 1) := by decide +kernel

set_option maxHeartbeats 8000000 in
set_option maxRecDepth 100000 in
theorem c_J1_charAt_3b067_x (l : Launch) (dC : Nat → ClassId) (dI : Nat → Nat → Nat) (g : Nat → ClassId) (a_v_ v__n : Nat) (v__f : Nat → Int32) (k_ : Int32) (Q : Int32 → Prop) (hw : wp_J1_charAt_3b067_x v__n v__f k_ Q) (sz : Nat) : Met l yJ1_charAt_3b067 wqJ1_charAt_3b067 ({ frames := 2, cells := 0, slots := 0, locals := 43 }) (va_Pc [.ref a_v_, .int k_] (PX (GYb v__n v__f a_v_) (dC, dI) g [] sz)) (va_Qi (fun (r : Int32) (u : Unit) => Q r ∧ narrow .char (.int r) = .int r) (fun (u : Unit) t9 => va_P (dC, dI) vwCl [] t9.heap ∧ va_D (va_A [] sz) []) (va_A [] sz)) 0 0 (va_A [] sz) := by
  refine Met.ofW (cc := cJ1_charAt_3b067) (maxL := 2) (ret := (some .char)) (by decide) rfl ?_
  intro p e s m args below meth c s₁ B hml hv
  obtain ⟨rfl, ⟨hsz, hP, hK, hD0, hG⟩, hT⟩ := hv
  have hx := B.exec
  have hb := B.bytes
  have hr := B.returns
  have hts := atoms_spec (ws := wqJ1_charAt_3b067) B.pre
  have hown : s.vm.findClass RJ1 = some m.cls := findClass_of_methodNamed B.named
  have hlocks := B.notSynchronized
  subst hsz
  have hD := hD0.self (sz := s.heap.size)
  generalize hAe : va_A [] s.heap.size = A at hD hG hT ⊢
  have hA : ∀ q : Nat, s.heap.size ≤ q → A q := fun q h => by rw [← hAe]; exact Or.inr h
  have hS : va_S A s.heap s.heap [] := va_S.rf
  have hrc : (headSpec wqJ1_charAt_3b067 ({ frames := 2, cells := 0, slots := 0, locals := 43 })).room.cells = 0 := rfl
  have hrs : (headSpec wqJ1_charAt_3b067 ({ frames := 2, cells := 0, slots := 0, locals := 43 })).room.slots = 0 := rfl
  have hl := lv_entry ([.ref a_v_, .int k_]) (n := 2) (Nat.le_of_ble_eq_true rfl)
  rw [lg_entry_eq]
  generalize (lg_sl ([.ref a_v_, .int k_]) ++ List.replicate (2 - (lg_sl ([.ref a_v_, .int k_])).length) Slot.unset).toArray = ls at hl ⊢
  have hl : lv_has ls 2 [(0, .ref a_v_), (1, .int k_)] := hl
  unfold wp_J1_charAt_3b067_x at hw
  refine lv_iload_n hx hb dJ1_charAt_3b067_0 rfl (lv_at hl 1 rfl) ?_
  refine lv_aload_n hx hb dJ1_charAt_3b067_1 rfl (lv_at hl 0 rfl) ?_
  refine va_tlen hx hb hT hS (v := nI v__n) rfl dJ1_charAt_3b067_2 ?_
  have hPs : va_P (dC, dI) vwCl (wcat [] ++ wcat []) s.heap := by rw [show wcat [] = [] from rfl, List.append_nil]; exact hP
  have hDs : va_D A (wcat [] ++ wcat []) := by rw [show wcat [] = [] from rfl, List.append_nil]; exact hD
  have hPc : va_P (dC, dI) vwCl [] s.heap := P_r hPs
  have hDc : va_D A [] := D_r hDs
  have hFc : ∀ q, va_A [] s.heap.size q → A q := A_all hDc hA hS.1
  refine va_callv (va_runS (As := [.int k_, .int (nI v__n)]) (rest := []) ⟨hx, hb, hml, hown, hts⟩ (c_J0_checkIndex_df160 l dC dI g (k_ := k_) (n_ := (nI v__n)) (hw := hw) (sz := s.heap.size)) (va_cwS 2 hts (gqS aw_5_101 aw_5_102 aw_1_21 aw_5_103) rfl rfl rfl (by decide +kernel) ⟨Nat.le_of_ble_eq_true rfl, Nat.le_of_ble_eq_true rfl⟩) ⟨PG_blind, PG_call hK hG hS hPc hDc hFc⟩ rfl rfl hl.1 rfl (lv_room (Nat.le_of_ble_eq_true rfl)) dJ1_charAt_3b067_3 ⟨by rw [hrc]; omega, by rw [hrs]; omega⟩) hS (fun q _ h => hFc q h) hFc (fun u_2 t_2 H_2 L_2 ht_2 hvm_2 hw_2 hB_2 hz_2 hk_2 hS => ?_)
  have hw := hw_2
  rw [ht_2] at hB_2
  obtain ⟨hP1, hD1⟩ := hB_2
  obtain ⟨hP, hD⟩ := join_r hPs hDs hk_2 hFc hP1 hD1
  rw [List.append_nil] at hP hD
  have hP : va_P (dC, dI) vwCl [] H_2 := hP
  have hD : va_D A [] := hD
  refine W.widen (k := 0) (n := 0) (by omega) (by omega) ?_
  refine lv_aload_n hx hb dJ1_charAt_3b067_6 rfl (lv_at hl 0 rfl) ?_
  refine lv_iload_n hx hb dJ1_charAt_3b067_7 rfl (lv_at hl 1 rfl) ?_
  obtain ⟨hi_3, hw⟩ := hw
  refine va_tb hx hb hT hS (i := k_) hi_3 (v := .int (v__f k_.toNatClampNeg)) rfl dJ1_charAt_3b067_8 ?_
  refine lv_topi (fun x_4 ex_4 => ?_)
  have hw := hw x_4 ex_4
  refine lv_sipush (v := 255) hx hb dJ1_charAt_3b067_9 (by decide) ?_
  refine lv_iand hx hb dJ1_charAt_3b067_12 ?_
  refine lv_topi (fun x_5 ex_5 => ?_)
  have hw := hw x_5 ex_5
  obtain ⟨x_6, ex_6, cx_6⟩ : ∃ y : Int32, y = (x_5.toUInt32 % 65536).toInt32 ∧ narrow .char (.int y) = .int y := ⟨_, rfl, pk_nc _⟩
  have hw := hw x_6 ex_6
  refine lv_i2c (v := x_6) hx hb dJ1_charAt_3b067_13 ex_6.symm ?_
  refine W.widen (k := 0) (n := 0) (by omega) (by omega) ?_
  exact W.zret (v := x_6) hx hb hr cx_6 (fun t ht hW => ⟨⟨x_6, (()), rfl, ⟨hw, cx_6⟩, ⟨P_at ht hP, hD⟩⟩, hS.F ht⟩) hS.2.2 dJ1_charAt_3b067_14


set_option maxHeartbeats 8000000 in
set_option maxRecDepth 100000 in
theorem c_J1_charAt_3b067_b (l : Launch) (dC : Nat → ClassId) (dI : Nat → Nat → Nat) (g : Nat → ClassId) (a_v_ n_v_ : Nat) (v_ : Nat → Int32) (k_ : Int32) (Q : Int32 → Prop) (hw : wp_J1_charAt_3b067_b n_v_ v_ k_ Q) (sz : Nat) : Met l yJ1_charAt_3b067 wqJ1_charAt_3b067 ({ frames := 2, cells := 0, slots := 0, locals := 43 }) (va_Pc [.ref a_v_, .int k_] (PG (dC, dI) g [(a_v_, .inl (g 2, n_v_, .inl v_))] sz)) (va_Qi (fun (r : Int32) (u : Unit) => Q r ∧ narrow .char (.int r) = .int r) (fun (u : Unit) t9 => va_P (dC, dI) vwCl [(a_v_, .inl (g 2, n_v_, .inl v_))] t9.heap ∧ va_D (va_A [(a_v_, .inl (g 2, n_v_, .inl v_))] sz) [(a_v_, .inl (g 2, n_v_, .inl v_))]) (va_A [(a_v_, .inl (g 2, n_v_, .inl v_))] sz)) 0 0 (va_A [(a_v_, .inl (g 2, n_v_, .inl v_))] sz) := by
  refine Met.ofW (cc := cJ1_charAt_3b067) (maxL := 2) (ret := (some .char)) (by decide) rfl ?_
  intro p e s m args below meth c s₁ B hml hv
  obtain ⟨rfl, hsz, hP, hK, hD0, hG⟩ := hv
  have hx := B.exec
  have hb := B.bytes
  have hr := B.returns
  have hts := atoms_spec (ws := wqJ1_charAt_3b067) B.pre
  have hown : s.vm.findClass RJ1 = some m.cls := findClass_of_methodNamed B.named
  have hlocks := B.notSynchronized
  subst hsz
  have hD := hD0.self (sz := s.heap.size)
  generalize hAe : va_A [(a_v_, .inl (g 2, n_v_, .inl v_))] s.heap.size = A at hD hG ⊢
  have hA : ∀ q : Nat, s.heap.size ≤ q → A q := fun q h => by rw [← hAe]; exact Or.inr h
  have hS : va_S A s.heap s.heap [] := va_S.rf
  have hrc : (headSpec wqJ1_charAt_3b067 ({ frames := 2, cells := 0, slots := 0, locals := 43 })).room.cells = 0 := rfl
  have hrs : (headSpec wqJ1_charAt_3b067 ({ frames := 2, cells := 0, slots := 0, locals := 43 })).room.slots = 0 := rfl
  have hl := lv_entry ([.ref a_v_, .int k_]) (n := 2) (Nat.le_of_ble_eq_true rfl)
  rw [lg_entry_eq]
  generalize (lg_sl ([.ref a_v_, .int k_]) ++ List.replicate (2 - (lg_sl ([.ref a_v_, .int k_])).length) Slot.unset).toArray = ls at hl ⊢
  have hl : lv_has ls 2 [(0, .ref a_v_), (1, .int k_)] := hl
  unfold wp_J1_charAt_3b067_b at hw
  refine lv_iload_n hx hb dJ1_charAt_3b067_0 rfl (lv_at hl 1 rfl) ?_
  refine lv_aload_n hx hb dJ1_charAt_3b067_1 rfl (lv_at hl 0 rfl) ?_
  refine va_alen hx hb hK hP 0 2 rfl rfl (v := nI n_v_) rfl dJ1_charAt_3b067_2 ?_
  have hPs : va_P (dC, dI) vwCl (wcat [[(a_v_, .inl (g 2, n_v_, .inl v_))]] ++ wcat []) s.heap := by rw [show wcat [] = [] from rfl, List.append_nil]; exact hP
  have hDs : va_D A (wcat [[(a_v_, .inl (g 2, n_v_, .inl v_))]] ++ wcat []) := by rw [show wcat [] = [] from rfl, List.append_nil]; exact hD
  have hPc : va_P (dC, dI) vwCl [] s.heap := P_r hPs
  have hDc : va_D A [] := D_r hDs
  have hFc : ∀ q, va_A [] s.heap.size q → A q := A_all hDc hA hS.1
  refine va_callv (va_runS (As := [.int k_, .int (nI n_v_)]) (rest := []) ⟨hx, hb, hml, hown, hts⟩ (c_J0_checkIndex_df160 l dC dI g (k_ := k_) (n_ := (nI n_v_)) (hw := hw) (sz := s.heap.size)) (va_cwS 2 hts (gqS aw_5_101 aw_5_102 aw_1_21 aw_5_103) rfl rfl rfl (by decide +kernel) ⟨Nat.le_of_ble_eq_true rfl, Nat.le_of_ble_eq_true rfl⟩) ⟨PG_blind, PG_call hK hG hS hPc hDc hFc⟩ rfl rfl hl.1 rfl (lv_room (Nat.le_of_ble_eq_true rfl)) dJ1_charAt_3b067_3 ⟨by rw [hrc]; omega, by rw [hrs]; omega⟩) hS (fun q _ h => hFc q h) hFc (fun u_2 t_2 H_2 L_2 ht_2 hvm_2 hw_2 hB_2 hz_2 hk_2 hS => ?_)
  have hw := hw_2
  rw [ht_2] at hB_2
  obtain ⟨hP1, hD1⟩ := hB_2
  obtain ⟨hP, hD⟩ := join_r hPs hDs hk_2 hFc hP1 hD1
  rw [List.append_nil] at hP hD
  have hP : va_P (dC, dI) vwCl [(a_v_, .inl (g 2, n_v_, .inl v_))] H_2 := hP
  have hD : va_D A [(a_v_, .inl (g 2, n_v_, .inl v_))] := hD
  refine W.widen (k := 0) (n := 0) (by omega) (by omega) ?_
  refine lv_aload_n hx hb dJ1_charAt_3b067_6 rfl (lv_at hl 0 rfl) ?_
  refine lv_iload_n hx hb dJ1_charAt_3b067_7 rfl (lv_at hl 1 rfl) ?_
  obtain ⟨hi_3, hw⟩ := hw
  refine va_bald hx hb hK hP 0 2 rfl rfl hi_3 dJ1_charAt_3b067_8 ?_
  refine lv_topi (fun x_4 ex_4 => ?_)
  have hw := hw x_4 ex_4
  refine lv_sipush (v := 255) hx hb dJ1_charAt_3b067_9 (by decide) ?_
  refine lv_iand hx hb dJ1_charAt_3b067_12 ?_
  refine lv_topi (fun x_5 ex_5 => ?_)
  have hw := hw x_5 ex_5
  obtain ⟨x_6, ex_6, cx_6⟩ : ∃ y : Int32, y = (x_5.toUInt32 % 65536).toInt32 ∧ narrow .char (.int y) = .int y := ⟨_, rfl, pk_nc _⟩
  have hw := hw x_6 ex_6
  refine lv_i2c (v := x_6) hx hb dJ1_charAt_3b067_13 ex_6.symm ?_
  refine W.widen (k := 0) (n := 0) (by omega) (by omega) ?_
  exact W.zret (v := x_6) hx hb hr cx_6 (fun t ht hW => ⟨⟨x_6, (()), rfl, ⟨hw, cx_6⟩, ⟨P_at ht hP, hD⟩⟩, hS.F ht⟩) hS.2.2 dJ1_charAt_3b067_14
theorem dJ0_charAt_5068e_0 : decode cJ0_charAt_5068e 0 = .ok (.aload_n 0, 1) := by decide +kernel
theorem dJ0_charAt_5068e_1 : decode cJ0_charAt_5068e 1 = .ok (.invokevirtual 492, 3) := by decide +kernel
theorem dJ0_charAt_5068e_4 : decode cJ0_charAt_5068e 4 = .ok (.ifCond .eq 12, 3) := by decide +kernel
theorem dJ0_charAt_5068e_7 : decode cJ0_charAt_5068e 7 = .ok (.aload_n 0, 1) := by decide +kernel
theorem dJ0_charAt_5068e_8 : decode cJ0_charAt_5068e 8 = .ok (.getfield 9, 3) := by decide +kernel
theorem dJ0_charAt_5068e_11 : decode cJ0_charAt_5068e 11 = .ok (.iload_n 1, 1) := by decide +kernel
theorem dJ0_charAt_5068e_12 : decode cJ0_charAt_5068e 12 = .ok (.invokestatic 495, 3) := by decide +kernel
theorem dJ0_charAt_5068e_15 : decode cJ0_charAt_5068e 15 = .ok (.ireturn, 1) := by decide +kernel

set_option maxHeartbeats 8000000 in
set_option maxRecDepth 100000 in
theorem c_J0_charAt_5068e (l : Launch) (dC : Nat → ClassId) (dI : Nat → Nat → Nat) (g : Nat → ClassId) (a_this_ this__n : Nat) (this__f : Nat → Int32) (k_ : Int32) (Q : Int32 → Prop) (hw : wp_J0_charAt_5068e this__n this__f k_ Q) (sz : Nat) : Met l yJ0_charAt_5068e wqJ0_charAt_5068e ({ frames := 3, cells := 0, slots := 0, locals := 64 }) (va_Pc [.ref a_this_, .int k_] (PX (GSb this__n this__f a_this_) (dC, dI) g [] sz)) (va_Qi (fun (r : Int32) (u : Unit) => Q r ∧ narrow .char (.int r) = .int r) (fun (u : Unit) t9 => va_P (dC, dI) vwCl [] t9.heap ∧ va_D (va_A [] sz) []) (va_A [] sz)) 0 0 (va_A [] sz) := by
  refine Met.ofW (cc := cJ0_charAt_5068e) (maxL := 2) (ret := (some .char)) (by decide) rfl ?_
  intro p e s m args below meth c s₁ B hml hv
  obtain ⟨rfl, ⟨hsz, hP, hK, hD0, hG⟩, hT⟩ := hv
  have hx := B.exec
  have hb := B.bytes
  have hr := B.returns
  have hts := atoms_spec (ws := wqJ0_charAt_5068e) B.pre
  have hown : s.vm.findClass RJ0 = some m.cls := findClass_of_methodNamed B.named
  have hlocks := B.notSynchronized
  subst hsz
  have hD := hD0.self (sz := s.heap.size)
  generalize hAe : va_A [] s.heap.size = A at hD hG hT ⊢
  have hA : ∀ q : Nat, s.heap.size ≤ q → A q := fun q h => by rw [← hAe]; exact Or.inr h
  have hS : va_S A s.heap s.heap [] := va_S.rf
  have hrc : (headSpec wqJ0_charAt_5068e ({ frames := 3, cells := 0, slots := 0, locals := 64 })).room.cells = 0 := rfl
  have hrs : (headSpec wqJ0_charAt_5068e ({ frames := 3, cells := 0, slots := 0, locals := 64 })).room.slots = 0 := rfl
  have hl := lv_entry ([.ref a_this_, .int k_]) (n := 2) (Nat.le_of_ble_eq_true rfl)
  rw [lg_entry_eq]
  generalize (lg_sl ([.ref a_this_, .int k_]) ++ List.replicate (2 - (lg_sl ([.ref a_this_, .int k_])).length) Slot.unset).toArray = ls at hl ⊢
  have hl : lv_has ls 2 [(0, .ref a_this_), (1, .int k_)] := hl
  unfold wp_J0_charAt_5068e at hw
  have hf9 := hts (Cond.fieldLink RJ0 9 "java/lang/String" "value" "[B") (aw_l aw_7_107)
  obtain ⟨v9, hO9, hC9, hV9, hY9⟩ := id hT
  refine lv_aload_n hx hb dJ0_charAt_5068e_0 rfl (lv_at hl 0 rfl) ?_
  have hPs : va_P (dC, dI) vwCl (wcat [] ++ wcat []) s.heap := by rw [show wcat [] = [] from rfl, List.append_nil]; exact hP
  have hDs : va_D A (wcat [] ++ wcat []) := by rw [show wcat [] = [] from rfl, List.append_nil]; exact hD
  have hPc : va_P (dC, dI) vwCl [] s.heap := P_r hPs
  have hDc : va_D A [] := D_r hDs
  have hFc : ∀ q, va_A [] s.heap.size q → A q := A_all hDc hA hS.1
  refine va_calli (va_runV (As := []) (rest := []) ⟨hx, hb, hml, hown, hts⟩ (c_J0_isLatin1_aae02 l dC dI g (a_this_ := a_this_) (this__n := this__n) (this__f := this__f) (hw := hw) (sz := s.heap.size)) (cwV 0 hts (gqV aw_5_94 aw_5_95 aw_5_96 aw_1_21 aw_5_97) rfl rfl rfl (by decide +kernel) ⟨Nat.le_of_ble_eq_true rfl, Nat.le_of_ble_eq_true rfl⟩) ⟨PX_blind (GSb_go this__n this__f a_this_), GSb_recv hT hS, PX_call (GSb_go this__n this__f a_this_) hK hG hS hPc hDc hFc hT⟩ rfl rfl hl.1 rfl (lv_room (Nat.le_of_ble_eq_true rfl)) dJ0_charAt_5068e_1 ⟨by rw [hrc]; omega, by rw [hrs]; omega⟩) hS (fun q _ h => hFc q h) hFc (fun r_2 u_2 t_2 H_2 L_2 ht_2 hvm_2 hw_2 hB_2 hz_2 hk_2 hS => ?_)
  obtain ⟨b_2, rfl, hw⟩ := hw_2
  obtain ⟨rfl, hw⟩ := hw
  rw [ht_2] at hB_2
  obtain ⟨hP1, hD1⟩ := hB_2
  obtain ⟨hP, hD⟩ := join_r hPs hDs hk_2 hFc hP1 hD1
  rw [List.append_nil] at hP hD
  have hP : va_P (dC, dI) vwCl [] H_2 := hP
  have hD : va_D A [] := hD
  refine W.eq (g2 := F0 m 4 ls [.int 1]) rfl ?_
  refine W.widen (k := 0) (n := 0) (by omega) (by omega) ?_
  refine lv_if_eq (tgt := 16) hx hb dJ0_charAt_5068e_4 (by decide) (fun c_3 => absurd c_3 (by decide)) (fun _ => ?_)
  refine lv_aload_n hx hb dJ0_charAt_5068e_7 rfl (lv_at hl 0 rfl) ?_
  refine vk_getf hx hb hV9 hS hown hf9 (fun _ h9 => h9) dJ0_charAt_5068e_8 ?_
  refine lv_iload_n hx hb dJ0_charAt_5068e_11 rfl (lv_at hl 1 rfl) ?_
  have hPs : va_P (dC, dI) vwCl (wcat [] ++ wcat []) H_2 := by rw [show wcat [] = [] from rfl, List.append_nil]; exact hP
  have hDs : va_D A (wcat [] ++ wcat []) := by rw [show wcat [] = [] from rfl, List.append_nil]; exact hD
  have hPc : va_P (dC, dI) vwCl [] H_2 := P_r hPs
  have hDc : va_D A [] := D_r hDs
  have hFc : ∀ q, va_A [] H_2.size q → A q := A_all hDc hA hS.1
  refine va_calli (va_runS (As := [.ref v9, .int k_]) (rest := []) ⟨hx, hb, hml, hown, hts⟩ (c_J1_charAt_3b067_x l dC dI g (a_v_ := v9) (v__n := this__n) (v__f := this__f) (k_ := k_) (hw := hw) (sz := H_2.size)) (va_cwS 2 hts (gqS aw_5_98 aw_5_99 aw_1_22 aw_5_100) rfl rfl rfl (by decide +kernel) ⟨Nat.le_of_ble_eq_true rfl, Nat.le_of_ble_eq_true rfl⟩) ⟨PX_blind (GYb_go this__n this__f v9), PX_call (GYb_go this__n this__f v9) hK hG hS hPc hDc hFc hY9⟩ rfl rfl hl.1 rfl (lv_room (Nat.le_of_ble_eq_true rfl)) dJ0_charAt_5068e_12 ⟨by rw [hrc]; omega, by rw [hrs]; omega⟩) hS (fun q _ h => hFc q h) hFc (fun r_5 u_5 t_5 H_5 L_5 ht_5 hvm_5 hw_5 hB_5 hz_5 hk_5 hS => ?_)
  obtain ⟨hw, hn_r_5⟩ := hw_5
  rw [ht_5] at hB_5
  obtain ⟨hP1, hD1⟩ := hB_5
  obtain ⟨hP, hD⟩ := join_r hPs hDs hk_5 hFc hP1 hD1
  rw [List.append_nil] at hP hD
  have hP : va_P (dC, dI) vwCl [] H_5 := hP
  have hD : va_D A [] := hD
  refine W.widen (k := 0) (n := 0) (by omega) (by omega) ?_
  refine W.widen (k := 0) (n := 0) (by omega) (by omega) ?_
  exact W.zret (v := r_5) hx hb hr hn_r_5 (fun t ht hW => ⟨⟨r_5, (()), rfl, ⟨hw, hn_r_5⟩, ⟨P_at ht hP, hD⟩⟩, hS.F ht⟩) hS.2.2 dJ0_charAt_5068e_15
theorem dJ5_length_8abf5_0 : decode cJ5_length_8abf5 0 = .ok (.aload_n 0, 1) := by decide +kernel
theorem dJ5_length_8abf5_1 : decode cJ5_length_8abf5 1 = .ok (.getfield 79, 3) := by decide +kernel
theorem dJ5_length_8abf5_4 : decode cJ5_length_8abf5 4 = .ok (.ireturn, 1) := by decide +kernel

set_option maxHeartbeats 8000000 in
set_option maxRecDepth 100000 in
theorem c_J5_length_8abf5 (l : Launch) (dC : Nat → ClassId) (dI : Nat → Nat → Nat) (g : Nat → ClassId) (a_this_ v_this_ c_this_ : Nat) (f_this_ : Nat → Int32) (k_this_ : Int32) (Q : Int32 → Prop) (hw : wp_J5_length_8abf5 k_this_ Q) (sz : Nat) : Met l yJ5_length_8abf5 wqJ5_length_8abf5 ({ frames := 0, cells := 0, slots := 0, locals := 0 }) (va_Pc [.ref a_this_] (PG (dC, dI) g [(a_this_, .inr (1, [.ref v_this_, .int 0, .int 0, .int k_this_])), (v_this_, .inl (g 2, c_this_, .inl f_this_))] sz)) (va_Qi (fun (r : Int32) (u : Unit) => Q r) (fun (u : Unit) t9 => va_P (dC, dI) vwCl [(a_this_, .inr (1, [.ref v_this_, .int 0, .int 0, .int k_this_])), (v_this_, .inl (g 2, c_this_, .inl f_this_))] t9.heap ∧ va_D (va_A [(a_this_, .inr (1, [.ref v_this_, .int 0, .int 0, .int k_this_])), (v_this_, .inl (g 2, c_this_, .inl f_this_))] sz) [(a_this_, .inr (1, [.ref v_this_, .int 0, .int 0, .int k_this_])), (v_this_, .inl (g 2, c_this_, .inl f_this_))]) (va_A [(a_this_, .inr (1, [.ref v_this_, .int 0, .int 0, .int k_this_])), (v_this_, .inl (g 2, c_this_, .inl f_this_))] sz)) 0 0 (va_A [(a_this_, .inr (1, [.ref v_this_, .int 0, .int 0, .int k_this_])), (v_this_, .inl (g 2, c_this_, .inl f_this_))] sz) := by
  refine Met.ofW (cc := cJ5_length_8abf5) (maxL := 1) (ret := (some .int)) (by decide) rfl ?_
  intro p e s m args below meth c s₁ B hml hv
  obtain ⟨rfl, hsz, hP, hK, hD0, hG⟩ := hv
  have hx := B.exec
  have hb := B.bytes
  have hr := B.returns
  have hts := atoms_spec (ws := wqJ5_length_8abf5) B.pre
  have hown : s.vm.findClass RJ5 = some m.cls := findClass_of_methodNamed B.named
  have hlocks := B.notSynchronized
  subst hsz
  have hD := hD0.self (sz := s.heap.size)
  generalize hAe : va_A [(a_this_, .inr (1, [.ref v_this_, .int 0, .int 0, .int k_this_])), (v_this_, .inl (g 2, c_this_, .inl f_this_))] s.heap.size = A at hD hG ⊢
  have hA : ∀ q : Nat, s.heap.size ≤ q → A q := fun q h => by rw [← hAe]; exact Or.inr h
  have hS : va_S A s.heap s.heap [] := va_S.rf
  have hrc : (headSpec wqJ5_length_8abf5 ({ frames := 0, cells := 0, slots := 0, locals := 0 })).room.cells = 0 := rfl
  have hrs : (headSpec wqJ5_length_8abf5 ({ frames := 0, cells := 0, slots := 0, locals := 0 })).room.slots = 0 := rfl
  have hl := lv_entry ([.ref a_this_]) (n := 1) (Nat.le_of_ble_eq_true rfl)
  rw [lg_entry_eq]
  generalize (lg_sl ([.ref a_this_]) ++ List.replicate (1 - (lg_sl ([.ref a_this_])).length) Slot.unset).toArray = ls at hl ⊢
  have hl : lv_has ls 1 [(0, .ref a_this_)] := hl
  unfold wp_J5_length_8abf5 at hw
  have hf79 := hts (Cond.fieldLink RJ5 79 "java/lang/AbstractStringBuilder" "count" "I") (aw_l aw_6_236)
  have hiJ4 : ∀ w ∈ u_ws RJ4 TJ4 4, w ∈ wqJ5_length_8abf5 := fun w h => aw_l (aw_wsJ40 w h)
  refine lv_aload_n hx hb dJ5_length_8abf5_0 rfl (lv_at hl 0 rfl) ?_
  refine va_get (D := (dC, dI)) (ci := 1) (v := .int k_this_) (C := RJ4) (T := TJ4) (N := 4) hx hb hts hiJ4 hown hK hP 0 rfl rfl 3 (by decide) hf79 (fun _ h9 => h9) rfl dJ5_length_8abf5_1 ?_
  refine W.widen (k := 0) (n := 0) (by omega) (by omega) ?_
  exact W.iret (v := k_this_) hx hb hr (fun t ht hW => ⟨⟨k_this_, (()), rfl, hw, ⟨P_at ht hP, hD⟩⟩, hS.F ht⟩) hS.2.2 dJ5_length_8abf5_4
theorem dJ4_length_8abf5_0 : decode cJ4_length_8abf5 0 = .ok (.aload_n 0, 1) := by decide +kernel
theorem dJ4_length_8abf5_1 : decode cJ4_length_8abf5 1 = .ok (.invokespecial 343, 3) := by decide +kernel
theorem dJ4_length_8abf5_4 : decode cJ4_length_8abf5 4 = .ok (.ireturn, 1) := by decide +kernel

set_option maxHeartbeats 8000000 in
set_option maxRecDepth 100000 in
theorem c_J4_length_8abf5 (l : Launch) (dC : Nat → ClassId) (dI : Nat → Nat → Nat) (g : Nat → ClassId) (a_this_ v_this_ c_this_ : Nat) (f_this_ : Nat → Int32) (k_this_ : Int32) (Q : Int32 → Prop) (hw : wp_J4_length_8abf5 k_this_ Q) (sz : Nat) : Met l yJ4_length_8abf5 wqJ4_length_8abf5 ({ frames := 1, cells := 0, slots := 0, locals := 20 }) (va_Pc [.ref a_this_] (PG (dC, dI) g [(a_this_, .inr (1, [.ref v_this_, .int 0, .int 0, .int k_this_])), (v_this_, .inl (g 2, c_this_, .inl f_this_))] sz)) (va_Qi (fun (r : Int32) (u : Unit) => Q r) (fun (u : Unit) t9 => va_P (dC, dI) vwCl [(a_this_, .inr (1, [.ref v_this_, .int 0, .int 0, .int k_this_])), (v_this_, .inl (g 2, c_this_, .inl f_this_))] t9.heap ∧ va_D (va_A [(a_this_, .inr (1, [.ref v_this_, .int 0, .int 0, .int k_this_])), (v_this_, .inl (g 2, c_this_, .inl f_this_))] sz) [(a_this_, .inr (1, [.ref v_this_, .int 0, .int 0, .int k_this_])), (v_this_, .inl (g 2, c_this_, .inl f_this_))]) (va_A [(a_this_, .inr (1, [.ref v_this_, .int 0, .int 0, .int k_this_])), (v_this_, .inl (g 2, c_this_, .inl f_this_))] sz)) 0 0 (va_A [(a_this_, .inr (1, [.ref v_this_, .int 0, .int 0, .int k_this_])), (v_this_, .inl (g 2, c_this_, .inl f_this_))] sz) := by
  refine Met.ofW (cc := cJ4_length_8abf5) (maxL := 1) (ret := (some .int)) (by decide) rfl ?_
  intro p e s m args below meth c s₁ B hml hv
  obtain ⟨rfl, hsz, hP, hK, hD0, hG⟩ := hv
  have hx := B.exec
  have hb := B.bytes
  have hr := B.returns
  have hts := atoms_spec (ws := wqJ4_length_8abf5) B.pre
  have hown : s.vm.findClass RJ4 = some m.cls := findClass_of_methodNamed B.named
  have hlocks := B.notSynchronized
  subst hsz
  have hD := hD0.self (sz := s.heap.size)
  generalize hAe : va_A [(a_this_, .inr (1, [.ref v_this_, .int 0, .int 0, .int k_this_])), (v_this_, .inl (g 2, c_this_, .inl f_this_))] s.heap.size = A at hD hG ⊢
  have hA : ∀ q : Nat, s.heap.size ≤ q → A q := fun q h => by rw [← hAe]; exact Or.inr h
  have hS : va_S A s.heap s.heap [] := va_S.rf
  have hrc : (headSpec wqJ4_length_8abf5 ({ frames := 1, cells := 0, slots := 0, locals := 20 })).room.cells = 0 := rfl
  have hrs : (headSpec wqJ4_length_8abf5 ({ frames := 1, cells := 0, slots := 0, locals := 20 })).room.slots = 0 := rfl
  have hl := lv_entry ([.ref a_this_]) (n := 1) (Nat.le_of_ble_eq_true rfl)
  rw [lg_entry_eq]
  generalize (lg_sl ([.ref a_this_]) ++ List.replicate (1 - (lg_sl ([.ref a_this_])).length) Slot.unset).toArray = ls at hl ⊢
  have hl : lv_has ls 1 [(0, .ref a_this_)] := hl
  unfold wp_J4_length_8abf5 at hw
  refine lv_aload_n hx hb dJ4_length_8abf5_0 rfl (lv_at hl 0 rfl) ?_
  obtain ⟨hPs, hDs⟩ := seg_call (segs := [[(a_this_, .inr (1, [.ref v_this_, .int 0, .int 0, .int k_this_]))], [(v_this_, .inl (g 2, c_this_, .inl f_this_))]]) [] [[(a_this_, .inr (1, [.ref v_this_, .int 0, .int 0, .int k_this_]))], [(v_this_, .inl (g 2, c_this_, .inl f_this_))]] 2 [0, 1] rfl rfl (by decide) hP hD
  have hPc : va_P (dC, dI) vwCl [(a_this_, .inr (1, [.ref v_this_, .int 0, .int 0, .int k_this_])), (v_this_, .inl (g 2, c_this_, .inl f_this_))] s.heap := P_r hPs
  have hDc : va_D A [(a_this_, .inr (1, [.ref v_this_, .int 0, .int 0, .int k_this_])), (v_this_, .inl (g 2, c_this_, .inl f_this_))] := D_r hDs
  have hFc : ∀ q, va_A [(a_this_, .inr (1, [.ref v_this_, .int 0, .int 0, .int k_this_])), (v_this_, .inl (g 2, c_this_, .inl f_this_))] s.heap.size q → A q := A_all hDc hA hS.1
  refine va_calli (va_runSU (As := []) (rest := []) (hK.1 1 _ rfl).2 ⟨hx, hb, hml, hown, hts⟩ (c_J5_length_8abf5 l dC dI g (a_this_ := a_this_) (v_this_ := v_this_) (c_this_ := c_this_) (f_this_ := f_this_) (k_this_ := k_this_) (hw := hw) (sz := s.heap.size)) (va_cwSU 0 hts (gqSU aw_7_13 aw_7_222 aw_6_143 aw_7_14 aw_1_25 aw_7_15) rfl rfl rfl (by decide +kernel) ⟨Nat.le_of_ble_eq_true rfl, Nat.le_of_ble_eq_true rfl⟩) ⟨PG_blind, va_recv hK hP (ci := 1) (q0 := 0) rfl rfl, PG_call hK hG hS hPc hDc hFc⟩ rfl rfl hl.1 rfl (lv_room (Nat.le_of_ble_eq_true rfl)) dJ4_length_8abf5_1 ⟨by rw [hrc]; omega, by rw [hrs]; omega⟩) hS (fun q _ h => hFc q h) hFc (fun r_2 u_2 t_2 H_2 L_2 ht_2 hvm_2 hw_2 hB_2 hz_2 hk_2 hS => ?_)
  have hw := hw_2
  rw [ht_2] at hB_2
  obtain ⟨hP1, hD1⟩ := hB_2
  obtain ⟨hP, hD⟩ := join_r hPs hDs hk_2 hFc hP1 hD1
  obtain ⟨hP, hD⟩ := seg_join [] [[(a_this_, .inr (1, [.ref v_this_, .int 0, .int 0, .int k_this_]))], [(v_this_, .inl (g 2, c_this_, .inl f_this_))]] [[(a_this_, .inr (1, [.ref v_this_, .int 0, .int 0, .int k_this_]))], [(v_this_, .inl (g 2, c_this_, .inl f_this_))]] 2 [0, 1] rfl rfl (by decide) hP hD
  have hP : va_P (dC, dI) vwCl [(a_this_, .inr (1, [.ref v_this_, .int 0, .int 0, .int k_this_])), (v_this_, .inl (g 2, c_this_, .inl f_this_))] H_2 := hP
  have hD : va_D A [(a_this_, .inr (1, [.ref v_this_, .int 0, .int 0, .int k_this_])), (v_this_, .inl (g 2, c_this_, .inl f_this_))] := hD
  refine W.widen (k := 0) (n := 0) (by omega) (by omega) ?_
  refine W.widen (k := 0) (n := 0) (by omega) (by omega) ?_
  exact W.iret (v := r_2) hx hb hr (fun t ht hW => ⟨⟨r_2, (()), rfl, hw, ⟨P_at ht hP, hD⟩⟩, hS.F ht⟩) hS.2.2 dJ4_length_8abf5_4
theorem dJ5_isLatin1_aae02_0 : decode cJ5_isLatin1_aae02 0 = .ok (.getstatic 18, 3) := by decide +kernel
theorem dJ5_isLatin1_aae02_3 : decode cJ5_isLatin1_aae02 3 = .ok (.ifCond .eq 14, 3) := by decide +kernel
theorem dJ5_isLatin1_aae02_6 : decode cJ5_isLatin1_aae02 6 = .ok (.aload_n 0, 1) := by decide +kernel
theorem dJ5_isLatin1_aae02_7 : decode cJ5_isLatin1_aae02 7 = .ok (.getfield 22, 3) := by decide +kernel
theorem dJ5_isLatin1_aae02_10 : decode cJ5_isLatin1_aae02 10 = .ok (.ifCond .ne 7, 3) := by decide +kernel
theorem dJ5_isLatin1_aae02_13 : decode cJ5_isLatin1_aae02 13 = .ok (.iconst 1, 1) := by decide +kernel
theorem dJ5_isLatin1_aae02_14 : decode cJ5_isLatin1_aae02 14 = .ok (.goto 4, 3) := by decide +kernel
theorem dJ5_isLatin1_aae02_18 : decode cJ5_isLatin1_aae02 18 = .ok (.ireturn, 1) := by decide +kernel

set_option maxHeartbeats 8000000 in
set_option maxRecDepth 100000 in
theorem c_J5_isLatin1_aae02 (l : Launch) (dC : Nat → ClassId) (dI : Nat → Nat → Nat) (g : Nat → ClassId) (a_this_ v_this_ c_this_ : Nat) (f_this_ : Nat → Int32) (k_this_ : Int32) (Q : Bool → Prop) (hw : wp_J5_isLatin1_aae02 Q) (sz : Nat) : Met l yJ5_isLatin1_aae02 wqJ5_isLatin1_aae02 ({ frames := 0, cells := 0, slots := 0, locals := 0 }) (va_Pc [.ref a_this_] (PG (dC, dI) g [(a_this_, .inr (1, [.ref v_this_, .int 0, .int 0, .int k_this_])), (v_this_, .inl (g 2, c_this_, .inl f_this_))] sz)) (va_Qi (fun (r : Int32) (u : Unit) => ∃ b : Bool, r = b2i b ∧ (Q b)) (fun (u : Unit) t9 => va_P (dC, dI) vwCl [(a_this_, .inr (1, [.ref v_this_, .int 0, .int 0, .int k_this_])), (v_this_, .inl (g 2, c_this_, .inl f_this_))] t9.heap ∧ va_D (va_A [(a_this_, .inr (1, [.ref v_this_, .int 0, .int 0, .int k_this_])), (v_this_, .inl (g 2, c_this_, .inl f_this_))] sz) [(a_this_, .inr (1, [.ref v_this_, .int 0, .int 0, .int k_this_])), (v_this_, .inl (g 2, c_this_, .inl f_this_))]) (va_A [(a_this_, .inr (1, [.ref v_this_, .int 0, .int 0, .int k_this_])), (v_this_, .inl (g 2, c_this_, .inl f_this_))] sz)) 0 0 (va_A [(a_this_, .inr (1, [.ref v_this_, .int 0, .int 0, .int k_this_])), (v_this_, .inl (g 2, c_this_, .inl f_this_))] sz) := by
  refine Met.ofW (cc := cJ5_isLatin1_aae02) (maxL := 1) (ret := (some .boolean)) (by decide) rfl ?_
  intro p e s m args below meth c s₁ B hml hv
  obtain ⟨rfl, hsz, hP, hK, hD0, hG⟩ := hv
  have hx := B.exec
  have hb := B.bytes
  have hr := B.returns
  have hts := atoms_spec (ws := wqJ5_isLatin1_aae02) B.pre
  have hown : s.vm.findClass RJ5 = some m.cls := findClass_of_methodNamed B.named
  have hlocks := B.notSynchronized
  subst hsz
  have hD := hD0.self (sz := s.heap.size)
  generalize hAe : va_A [(a_this_, .inr (1, [.ref v_this_, .int 0, .int 0, .int k_this_])), (v_this_, .inl (g 2, c_this_, .inl f_this_))] s.heap.size = A at hD hG ⊢
  have hA : ∀ q : Nat, s.heap.size ≤ q → A q := fun q h => by rw [← hAe]; exact Or.inr h
  have hS : va_S A s.heap s.heap [] := va_S.rf
  have hrc : (headSpec wqJ5_isLatin1_aae02 ({ frames := 0, cells := 0, slots := 0, locals := 0 })).room.cells = 0 := rfl
  have hrs : (headSpec wqJ5_isLatin1_aae02 ({ frames := 0, cells := 0, slots := 0, locals := 0 })).room.slots = 0 := rfl
  have hl := lv_entry ([.ref a_this_]) (n := 1) (Nat.le_of_ble_eq_true rfl)
  rw [lg_entry_eq]
  generalize (lg_sl ([.ref a_this_]) ++ List.replicate (1 - (lg_sl ([.ref a_this_])).length) Slot.unset).toArray = ls at hl ⊢
  have hl : lv_has ls 1 [(0, .ref a_this_)] := hl
  unfold wp_J5_isLatin1_aae02 at hw
  have hf18 := hts (Cond.fieldLink RJ5 18 "java/lang/String" "COMPACT_STRINGS" "Z") (aw_l aw_6_184)
  have hf22 := hts (Cond.fieldLink RJ5 22 "java/lang/AbstractStringBuilder" "coder" "B") (aw_l aw_6_234)
  have hiJ4 : ∀ w ∈ u_ws RJ4 TJ4 4, w ∈ wqJ5_isLatin1_aae02 := fun w h => aw_l (aw_wsJ40 w h)
  refine va_gets hx hb (cs_z hG) hS hown hf18 (fun _ h9 => h9) dJ5_isLatin1_aae02_0 ?_
  refine lv_if_eq (tgt := 17) hx hb dJ5_isLatin1_aae02_3 (by decide) (fun c_1 => absurd c_1 (by decide)) (fun _ => ?_)
  refine lv_aload_n hx hb dJ5_isLatin1_aae02_6 rfl (lv_at hl 0 rfl) ?_
  refine va_get (D := (dC, dI)) (ci := 1) (v := .int 0) (C := RJ4) (T := TJ4) (N := 4) hx hb hts hiJ4 hown hK hP 0 rfl rfl 1 (by decide) hf22 (fun _ h9 => h9) rfl dJ5_isLatin1_aae02_7 ?_
  refine lv_if_ne (tgt := 17) hx hb dJ5_isLatin1_aae02_10 (by decide) (fun c_2 => absurd c_2 (by decide)) (fun _ => ?_)
  refine lv_iconst (v := 1) hx hb dJ5_isLatin1_aae02_13 (by decide) ?_
  refine lv_goto (tgt := 18) hx hb dJ5_isLatin1_aae02_14 (by decide) ?_
  refine W.widen (k := 0) (n := 0) (by omega) (by omega) ?_
  exact W.zret (v := 1) hx hb hr rfl (fun t ht hW => ⟨⟨_, (()), rfl, ⟨true, rfl, hw⟩, ⟨P_at ht hP, hD⟩⟩, hS.F ht⟩) hS.2.2 dJ5_isLatin1_aae02_18
theorem dJ5_getValue_6d5f1_0 : decode cJ5_getValue_6d5f1 0 = .ok (.aload_n 0, 1) := by decide +kernel
theorem dJ5_getValue_6d5f1_1 : decode cJ5_getValue_6d5f1 1 = .ok (.getfield 15, 3) := by decide +kernel
theorem dJ5_getValue_6d5f1_4 : decode cJ5_getValue_6d5f1 4 = .ok (.areturn, 1) := by decide +kernel

set_option maxHeartbeats 8000000 in
set_option maxRecDepth 100000 in
theorem c_J5_getValue_6d5f1 (l : Launch) (dC : Nat → ClassId) (dI : Nat → Nat → Nat) (g : Nat → ClassId) (a_this_ v_this_ c_this_ : Nat) (f_this_ : Nat → Int32) (k_this_ : Int32) (Q : Prop) (hw : wp_J5_getValue_6d5f1 Q) (sz : Nat) : Met l yJ5_getValue_6d5f1 wqJ5_getValue_6d5f1 ({ frames := 0, cells := 0, slots := 0, locals := 0 }) (va_Pc [.ref a_this_] (PG (dC, dI) g [(a_this_, .inr (1, [.ref v_this_, .int 0, .int 0, .int k_this_])), (v_this_, .inl (g 2, c_this_, .inl f_this_))] sz)) (va_Qq (fun (r : Option Nat) (u : Unit) => r = some v_this_ ∧ (Q)) (fun (u : Unit) t9 => va_P (dC, dI) vwCl [(a_this_, .inr (1, [.ref v_this_, .int 0, .int 0, .int k_this_])), (v_this_, .inl (g 2, c_this_, .inl f_this_))] t9.heap ∧ va_D (va_A [(a_this_, .inr (1, [.ref v_this_, .int 0, .int 0, .int k_this_])), (v_this_, .inl (g 2, c_this_, .inl f_this_))] sz) [(a_this_, .inr (1, [.ref v_this_, .int 0, .int 0, .int k_this_])), (v_this_, .inl (g 2, c_this_, .inl f_this_))]) (va_A [(a_this_, .inr (1, [.ref v_this_, .int 0, .int 0, .int k_this_])), (v_this_, .inl (g 2, c_this_, .inl f_this_))] sz)) 0 0 (va_A [(a_this_, .inr (1, [.ref v_this_, .int 0, .int 0, .int k_this_])), (v_this_, .inl (g 2, c_this_, .inl f_this_))] sz) := by
  refine Met.ofW (cc := cJ5_getValue_6d5f1) (maxL := 1) (ret := (some (.array .byte))) (by decide) rfl ?_
  intro p e s m args below meth c s₁ B hml hv
  obtain ⟨rfl, hsz, hP, hK, hD0, hG⟩ := hv
  have hx := B.exec
  have hb := B.bytes
  have hr := B.returns
  have hts := atoms_spec (ws := wqJ5_getValue_6d5f1) B.pre
  have hown : s.vm.findClass RJ5 = some m.cls := findClass_of_methodNamed B.named
  have hlocks := B.notSynchronized
  subst hsz
  have hD := hD0.self (sz := s.heap.size)
  generalize hAe : va_A [(a_this_, .inr (1, [.ref v_this_, .int 0, .int 0, .int k_this_])), (v_this_, .inl (g 2, c_this_, .inl f_this_))] s.heap.size = A at hD hG ⊢
  have hA : ∀ q : Nat, s.heap.size ≤ q → A q := fun q h => by rw [← hAe]; exact Or.inr h
  have hS : va_S A s.heap s.heap [] := va_S.rf
  have hrc : (headSpec wqJ5_getValue_6d5f1 ({ frames := 0, cells := 0, slots := 0, locals := 0 })).room.cells = 0 := rfl
  have hrs : (headSpec wqJ5_getValue_6d5f1 ({ frames := 0, cells := 0, slots := 0, locals := 0 })).room.slots = 0 := rfl
  have hl := lv_entry ([.ref a_this_]) (n := 1) (Nat.le_of_ble_eq_true rfl)
  rw [lg_entry_eq]
  generalize (lg_sl ([.ref a_this_]) ++ List.replicate (1 - (lg_sl ([.ref a_this_])).length) Slot.unset).toArray = ls at hl ⊢
  have hl : lv_has ls 1 [(0, .ref a_this_)] := hl
  unfold wp_J5_getValue_6d5f1 at hw
  have hf15 := hts (Cond.fieldLink RJ5 15 "java/lang/AbstractStringBuilder" "value" "[B") (aw_l aw_6_233)
  have hiJ4 : ∀ w ∈ u_ws RJ4 TJ4 4, w ∈ wqJ5_getValue_6d5f1 := fun w h => aw_l (aw_wsJ40 w h)
  refine lv_aload_n hx hb dJ5_getValue_6d5f1_0 rfl (lv_at hl 0 rfl) ?_
  refine va_get (D := (dC, dI)) (ci := 1) (v := .ref v_this_) (C := RJ4) (T := TJ4) (N := 4) hx hb hts hiJ4 hown hK hP 0 rfl rfl 0 (by decide) hf15 (fun _ h9 => h9) rfl dJ5_getValue_6d5f1_1 ?_
  refine W.widen (k := 0) (n := 0) (by omega) (by omega) ?_
  exact W.aret (v := .ref v_this_) hx hb hr (Or.inr ⟨_, rfl⟩) (Or.inr ⟨_, rfl⟩) (fun t ht hW => ⟨⟨some v_this_, (()), rfl, ⟨rfl, hw⟩, ⟨P_at ht hP, hD⟩⟩, hS.F ht⟩) hS.2.2 dJ5_getValue_6d5f1_4
theorem dJ8_newLength_cabcc_0 : decode cJ8_newLength_cabcc 0 = .ok (.iload_n 0, 1) := by decide +kernel
theorem dJ8_newLength_cabcc_1 : decode cJ8_newLength_cabcc 1 = .ok (.iload_n 1, 1) := by decide +kernel
theorem dJ8_newLength_cabcc_2 : decode cJ8_newLength_cabcc 2 = .ok (.iload_n 2, 1) := by decide +kernel
theorem dJ8_newLength_cabcc_3 : decode cJ8_newLength_cabcc 3 = .ok (.invokestatic 194, 3) := by decide +kernel
theorem dJ8_newLength_cabcc_6 : decode cJ8_newLength_cabcc 6 = .ok (.iadd, 1) := by decide +kernel
theorem dJ8_newLength_cabcc_7 : decode cJ8_newLength_cabcc 7 = .ok (.istore_n 3, 1) := by decide +kernel
theorem dJ8_newLength_cabcc_8 : decode cJ8_newLength_cabcc 8 = .ok (.iconst 0, 1) := by decide +kernel
theorem dJ8_newLength_cabcc_9 : decode cJ8_newLength_cabcc 9 = .ok (.iload_n 3, 1) := by decide +kernel
theorem dJ8_newLength_cabcc_10 : decode cJ8_newLength_cabcc 10 = .ok (.if_icmp .ge 11, 3) := by decide +kernel
theorem dJ8_newLength_cabcc_13 : decode cJ8_newLength_cabcc 13 = .ok (.iload_n 3, 1) := by decide +kernel
theorem dJ8_newLength_cabcc_14 : decode cJ8_newLength_cabcc 14 = .ok (.ldc 200, 2) := by decide +kernel
theorem dJ8_newLength_cabcc_16 : decode cJ8_newLength_cabcc 16 = .ok (.if_icmp .gt 5, 3) := by decide +kernel
theorem dJ8_newLength_cabcc_19 : decode cJ8_newLength_cabcc 19 = .ok (.iload_n 3, 1) := by decide +kernel
theorem dJ8_newLength_cabcc_20 : decode cJ8_newLength_cabcc 20 = .ok (.ireturn, 1) := by decide +kernel

set_option maxHeartbeats 8000000 in
set_option maxRecDepth 100000 in
theorem c_J8_newLength_cabcc (l : Launch) (dC : Nat → ClassId) (dI : Nat → Nat → Nat) (g : Nat → ClassId) (o_ : Int32) (m_ : Int32) (p_ : Int32) (Q : Int32 → Prop) (hw : wp_J8_newLength_cabcc o_ m_ p_ Q) (sz : Nat) : Met l yJ8_newLength_cabcc wqJ8_newLength_cabcc ({ frames := 1, cells := 0, slots := 0, locals := 14 }) (va_Pc [.int o_, .int m_, .int p_] (PG (dC, dI) g [] sz)) (va_Qi (fun (r : Int32) (u : Unit) => Q r) (fun (u : Unit) t9 => va_P (dC, dI) vwCl [] t9.heap ∧ va_D (va_A [] sz) []) (va_A [] sz)) 0 0 (va_A [] sz) := by
  refine Met.ofW (cc := cJ8_newLength_cabcc) (maxL := 4) (ret := (some .int)) (by decide) rfl ?_
  intro p e s m args below meth c s₁ B hml hv
  obtain ⟨rfl, hsz, hP, hK, hD0, hG⟩ := hv
  have hx := B.exec
  have hb := B.bytes
  have hr := B.returns
  have hts := atoms_spec (ws := wqJ8_newLength_cabcc) B.pre
  have hown : s.vm.findClass RJ8 = some m.cls := findClass_of_methodNamed B.named
  have hlocks := B.notSynchronized
  subst hsz
  have hD := hD0.self (sz := s.heap.size)
  generalize hAe : va_A [] s.heap.size = A at hD hG ⊢
  have hA : ∀ q : Nat, s.heap.size ≤ q → A q := fun q h => by rw [← hAe]; exact Or.inr h
  have hS : va_S A s.heap s.heap [] := va_S.rf
  have hrc : (headSpec wqJ8_newLength_cabcc ({ frames := 1, cells := 0, slots := 0, locals := 14 })).room.cells = 0 := rfl
  have hrs : (headSpec wqJ8_newLength_cabcc ({ frames := 1, cells := 0, slots := 0, locals := 14 })).room.slots = 0 := rfl
  have hl := lv_entry ([.int o_, .int m_, .int p_]) (n := 4) (Nat.le_of_ble_eq_true rfl)
  rw [lg_entry_eq]
  generalize (lg_sl ([.int o_, .int m_, .int p_]) ++ List.replicate (4 - (lg_sl ([.int o_, .int m_, .int p_])).length) Slot.unset).toArray = ls at hl ⊢
  have hl : lv_has ls 4 [(0, .int o_), (1, .int m_), (2, .int p_)] := hl
  unfold wp_J8_newLength_cabcc at hw
  have hmmax194_0 := hts (Cond.methodLink RJ8 194 Lib.Math.max.name) (aw_l aw_6_160)
  have hmmax194_1 := hts (Cond.static Lib.Math.max.name) (aw_l aw_3_191)
  have hmmax194_2 := hts (Cond.initialized "java/lang/Math") (aw_l aw_1_19)
  have hmmax194_3 := hts (Cond.code Lib.Math.max.name Lib.Math.max.code 2 (some .int)) (aw_l aw_3_192)
  have hk200 := hts (Jvm.Cond.constant RJ8 200 2147483639) (aw_l aw_6_161)
  refine lv_iload_n hx hb dJ8_newLength_cabcc_0 rfl (lv_at hl 0 rfl) ?_
  refine lv_iload_n hx hb dJ8_newLength_cabcc_1 rfl (lv_at hl 1 rfl) ?_
  refine lv_iload_n hx hb dJ8_newLength_cabcc_2 rfl (lv_at hl 2 rfl) ?_
  refine va_mmax hx hb (hml.trans hl.1.symm) hown hmmax194_0 hmmax194_1 hmmax194_2 hmmax194_3 (Nat.le_of_ble_eq_true rfl) (Nat.le_of_ble_eq_true rfl) (by rw [hrc]; omega) (by rw [hrs]; omega) dJ8_newLength_cabcc_3 ?_
  refine lv_topi (fun x_1 ex_1 => ?_)
  have hw := hw x_1 ex_1
  refine lv_iadd hx hb dJ8_newLength_cabcc_6 ?_
  refine lv_topi (fun x_2 ex_2 => ?_)
  have hw := hw x_2 ex_2
  refine lv_istore_n (lv' := [(3, .int x_2), (0, .int o_), (1, .int m_), (2, .int p_)]) hx hb dJ8_newLength_cabcc_7 rfl hl (by decide) rfl (fun ls hl => ?_)
  refine lv_iconst (v := 0) hx hb dJ8_newLength_cabcc_8 (by decide) ?_
  refine lv_iload_n hx hb dJ8_newLength_cabcc_9 rfl (lv_at hl 0 rfl) ?_
  refine W_abs (fun QM hQM => ?_)
  have JN21 : ∀  (H : Heap) (locs : List Loc), wj_J8_newLength_cabcc_21  → va_P (dC, dI) vwCl [] H → va_D A [] → va_S A s.heap H locs → ∀ (ls : Array Slot), lv_has ls 4 [(0, .int o_), (1, .int m_)] → W p l e (headSpec wqJ8_newLength_cabcc ({ frames := 1, cells := 0, slots := 0, locals := 14 })).room s m ([.int o_, .int m_, .int p_] : List Value).toArray below meth c H locs 0 0 QM (F0 m 21 ls []) := by
    intro  H locs hw hP hD hS ls hl
    exact hw.elim
  refine lv_icmp_ge (tgt := 21) hx hb dJ8_newLength_cabcc_10 (by decide) (fun c_3 => ?_) (fun c_3 => ?_)
  · have hw := hw.1 c_3
    refine W.widen (k := 0) (n := 0) (by omega) (by omega) ?_
    exact JN21  _ _ hw hP hD hS _ (lv_sub hl [1, 2] rfl)
  · have hw := hw.2 c_3
    refine lv_iload_n hx hb dJ8_newLength_cabcc_13 rfl (lv_at hl 0 rfl) ?_
    refine lv_ldc hx hb hown hk200 dJ8_newLength_cabcc_14 ?_
    refine lv_icmp_gt (tgt := 21) hx hb dJ8_newLength_cabcc_16 (by decide) (fun c_4 => ?_) (fun c_4 => ?_)
    · have hw := hw.1 c_4
      refine W.widen (k := 0) (n := 0) (by omega) (by omega) ?_
      exact JN21  _ _ hw hP hD hS _ (lv_sub hl [1, 2] rfl)
    · have hw := hw.2 c_4
      refine lv_iload_n hx hb dJ8_newLength_cabcc_19 rfl (lv_at hl 0 rfl) ?_
      refine W.widen (k := 0) (n := 0) (by omega) (by omega) ?_
      subst hQM
      exact W.iret (v := x_2) hx hb hr (fun t ht hW => ⟨⟨x_2, (()), rfl, hw, ⟨P_at ht hP, hD⟩⟩, hS.F ht⟩) hS.2.2 dJ8_newLength_cabcc_20
theorem dJ7_copyOf_9075b_0 : decode cJ7_copyOf_9075b 0 = .ok (.iload_n 1, 1) := by decide +kernel
theorem dJ7_copyOf_9075b_1 : decode cJ7_copyOf_9075b 1 = .ok (.aload_n 0, 1) := by decide +kernel
theorem dJ7_copyOf_9075b_2 : decode cJ7_copyOf_9075b 2 = .ok (.arraylength, 1) := by decide +kernel
theorem dJ7_copyOf_9075b_3 : decode cJ7_copyOf_9075b 3 = .ok (.if_icmp .ne 11, 3) := by decide +kernel
theorem dJ7_copyOf_9075b_14 : decode cJ7_copyOf_9075b 14 = .ok (.iload_n 1, 1) := by decide +kernel
theorem dJ7_copyOf_9075b_15 : decode cJ7_copyOf_9075b 15 = .ok (.newarray .byte, 2) := by decide +kernel
theorem dJ7_copyOf_9075b_17 : decode cJ7_copyOf_9075b 17 = .ok (.astore_n 2, 1) := by decide +kernel
theorem dJ7_copyOf_9075b_18 : decode cJ7_copyOf_9075b 18 = .ok (.aload_n 0, 1) := by decide +kernel
theorem dJ7_copyOf_9075b_19 : decode cJ7_copyOf_9075b 19 = .ok (.iconst 0, 1) := by decide +kernel
theorem dJ7_copyOf_9075b_20 : decode cJ7_copyOf_9075b 20 = .ok (.aload_n 2, 1) := by decide +kernel
theorem dJ7_copyOf_9075b_21 : decode cJ7_copyOf_9075b 21 = .ok (.iconst 0, 1) := by decide +kernel
theorem dJ7_copyOf_9075b_22 : decode cJ7_copyOf_9075b 22 = .ok (.aload_n 0, 1) := by decide +kernel
theorem dJ7_copyOf_9075b_23 : decode cJ7_copyOf_9075b 23 = .ok (.arraylength, 1) := by decide +kernel
theorem dJ7_copyOf_9075b_24 : decode cJ7_copyOf_9075b 24 = .ok (.iload_n 1, 1) := by decide +kernel
theorem dJ7_copyOf_9075b_25 : decode cJ7_copyOf_9075b 25 = .ok (.invokestatic 304, 3) := by decide +kernel
theorem dJ7_copyOf_9075b_28 : decode cJ7_copyOf_9075b 28 = .ok (.invokestatic 150, 3) := by decide +kernel
theorem dJ7_copyOf_9075b_31 : decode cJ7_copyOf_9075b 31 = .ok (.aload_n 2, 1) := by decide +kernel
theorem dJ7_copyOf_9075b_32 : decode cJ7_copyOf_9075b 32 = .ok (.areturn, 1) := by decide +kernel

set_option maxHeartbeats 8000000 in
set_option maxRecDepth 100000 in
theorem c_J7_copyOf_9075b (l : Launch) (dC : Nat → ClassId) (dI : Nat → Nat → Nat) (g : Nat → ClassId) (a_a_ n_a_ : Nat) (a_ : Nat → Int32) (n_ : Int32) (Q : Nat → (Nat → Int32) → Prop) (hw : wp_J7_copyOf_9075b n_a_ a_ n_ Q) (sz : Nat) : Met l yJ7_copyOf_9075b wqJ7_copyOf_9075b ({ frames := 1, cells := 1, slots := 2000, locals := 60 }) (va_Pc [.ref a_a_, .int n_] (PG (dC, dI) g [(a_a_, .inl (g 2, n_a_, .inl a_))] sz)) (va_Qq (fun (r : Option Nat) (u : Nat × Nat × (Nat → Int32) × Unit) => r = some u.1 ∧ (Q u.2.1 u.2.2.1)) (fun (u : Nat × Nat × (Nat → Int32) × Unit) t9 => va_P (dC, dI) vwCl [(a_a_, .inl (g 2, n_a_, .inl a_)), (u.1, .inl (g 2, u.2.1, .inl u.2.2.1))] t9.heap ∧ va_D (va_A [(a_a_, .inl (g 2, n_a_, .inl a_))] sz) [(a_a_, .inl (g 2, n_a_, .inl a_)), (u.1, .inl (g 2, u.2.1, .inl u.2.2.1))]) (va_A [(a_a_, .inl (g 2, n_a_, .inl a_))] sz)) 1 2000 (va_A [(a_a_, .inl (g 2, n_a_, .inl a_))] sz) := by
  refine Met.ofW (cc := cJ7_copyOf_9075b) (maxL := 3) (ret := (some (.array .byte))) (by decide) rfl ?_
  intro p e s m args below meth c s₁ B hml hv
  obtain ⟨rfl, hsz, hP, hK, hD0, hG⟩ := hv
  have hx := B.exec
  have hb := B.bytes
  have hr := B.returns
  have hts := atoms_spec (ws := wqJ7_copyOf_9075b) B.pre
  have hown : s.vm.findClass RJ7 = some m.cls := findClass_of_methodNamed B.named
  have hlocks := B.notSynchronized
  subst hsz
  have hD := hD0.self (sz := s.heap.size)
  generalize hAe : va_A [(a_a_, .inl (g 2, n_a_, .inl a_))] s.heap.size = A at hD hG ⊢
  have hA : ∀ q : Nat, s.heap.size ≤ q → A q := fun q h => by rw [← hAe]; exact Or.inr h
  have hS : va_S A s.heap s.heap [] := va_S.rf
  have hrc : (headSpec wqJ7_copyOf_9075b ({ frames := 1, cells := 1, slots := 2000, locals := 60 })).room.cells = 1 := rfl
  have hrs : (headSpec wqJ7_copyOf_9075b ({ frames := 1, cells := 1, slots := 2000, locals := 60 })).room.slots = 2000 := rfl
  have hl := lv_entry ([.ref a_a_, .int n_]) (n := 3) (Nat.le_of_ble_eq_true rfl)
  rw [lg_entry_eq]
  generalize (lg_sl ([.ref a_a_, .int n_]) ++ List.replicate (3 - (lg_sl ([.ref a_a_, .int n_])).length) Slot.unset).toArray = ls at hl ⊢
  have hl : lv_has ls 3 [(0, .ref a_a_), (1, .int n_)] := hl
  unfold wp_J7_copyOf_9075b at hw
  have hnabyte := hts (Cond.arrayClass .byte) (aw_l aw_3_61)
  have hmmin304_0 := hts (Cond.methodLink RJ7 304 Lib.Math.min.name) (aw_l aw_6_175)
  have hmmin304_1 := hts (Cond.static Lib.Math.min.name) (aw_l aw_3_141)
  have hmmin304_2 := hts (Cond.initialized "java/lang/Math") (aw_l aw_1_19)
  have hmmin304_3 := hts (Cond.code Lib.Math.min.name Lib.Math.min.code 2 (some .int)) (aw_l aw_3_142)
  have hac150_0 := hts (Cond.methodLink RJ7 150 arraycopyName) (aw_l aw_6_176)
  have hac150_1 := hts (Cond.native arraycopyName) (aw_l aw_6_178)
  have hac150_2 := hts (Cond.static arraycopyName) (aw_l aw_6_177)
  have hac150_3 := hts (Cond.initialized "java/lang/System") (aw_l aw_1_29)
  refine lv_iload_n hx hb dJ7_copyOf_9075b_0 rfl (lv_at hl 1 rfl) ?_
  refine lv_aload_n hx hb dJ7_copyOf_9075b_1 rfl (lv_at hl 0 rfl) ?_
  refine va_alen hx hb hK hP 0 2 rfl rfl (v := nI n_a_) rfl dJ7_copyOf_9075b_2 ?_
  refine lv_icmp_ne (tgt := 14) hx hb dJ7_copyOf_9075b_3 (by decide) (fun c_1 => ?_) (fun c_1 => ?_)
  · have hw := hw.2 c_1
    refine lv_iload_n hx hb dJ7_copyOf_9075b_14 rfl (lv_at hl 1 rfl) ?_
    obtain ⟨n_5, en_5, ln_5, hw⟩ := hw
    refine va_newa (atype := .byte) (a0 := (n_5, .inl (fun _ => 0))) hx hb hnabyte rfl hK hP hD hS hA (fun _ => rfl) (by rw [en_5]; exact nI_pos (by omega)) (N' := n_5) (by rw [en_5]; exact nI_clamp (by omega)) (show n_5 * 1 ≤ 536870912 by omega) (by rw [hrc]; omega) (by rw [hrs]; omega) dJ7_copyOf_9075b_15 (fun a_q_2 cA_4 H_3 hK9 hP hD hS => ?_)
    obtain rfl : g 2 = cA_4 := K_one hK9 2 5 rfl rfl
    obtain ⟨hP, hD⟩ := seg_join [[(a_a_, .inl (g 2, n_a_, .inl a_))]] [[(a_q_2, .inl (g 2, n_5, .inl (fun _ => 0)))]] [[(a_a_, .inl (g 2, n_a_, .inl a_))], [(a_q_2, .inl (g 2, n_5, .inl (fun _ => 0)))]] 2 [0, 1] rfl rfl (by decide) hP hD
    have hP : va_P (dC, dI) vwCl [(a_a_, .inl (g 2, n_a_, .inl a_)), (a_q_2, .inl (g 2, n_5, .inl (fun _ => 0)))] H_3 := hP
    have hD : va_D A [(a_a_, .inl (g 2, n_a_, .inl a_)), (a_q_2, .inl (g 2, n_5, .inl (fun _ => 0)))] := hD
    refine W.widen (k := 1) (n := 2000) (by omega) (by omega) ?_
    refine lv_astore_n (lv' := [(2, .ref a_q_2), (0, .ref a_a_), (1, .int n_)]) hx hb dJ7_copyOf_9075b_17 rfl hl (by decide) rfl (fun ls hl => ?_)
    refine lv_aload_n hx hb dJ7_copyOf_9075b_18 rfl (lv_at hl 1 rfl) ?_
    refine lv_iconst (v := 0) hx hb dJ7_copyOf_9075b_19 (by decide) ?_
    refine lv_aload_n hx hb dJ7_copyOf_9075b_20 rfl (lv_at hl 0 rfl) ?_
    refine lv_iconst (v := 0) hx hb dJ7_copyOf_9075b_21 (by decide) ?_
    refine lv_aload_n hx hb dJ7_copyOf_9075b_22 rfl (lv_at hl 1 rfl) ?_
    refine va_alen hx hb hK hP 0 2 rfl rfl (v := nI n_a_) rfl dJ7_copyOf_9075b_23 ?_
    refine lv_iload_n hx hb dJ7_copyOf_9075b_24 rfl (lv_at hl 2 rfl) ?_
    refine va_mmin hx hb (hml.trans hl.1.symm) hown hmmin304_0 hmmin304_1 hmmin304_2 hmmin304_3 (Nat.le_of_ble_eq_true rfl) (Nat.le_of_ble_eq_true rfl) (by rw [hrc]; omega) (by rw [hrs]; omega) dJ7_copyOf_9075b_25 ?_
    refine lv_topi (fun x_6 ex_6 => ?_)
    have hw := hw x_6 ex_6
    obtain ⟨hc_101, hc_102, hc_103, hc_104, hc_105, hc_106, hw⟩ := hw
    refine va_copyi hx hb (hml.trans hl.1.symm) hown hac150_0 hac150_1 hac150_2 hac150_3 hK hP hD hS 0 1 2 2 rfl rfl rfl rfl rfl hc_101 hc_102 hc_103 hc_104 hc_105 hc_106 (Nat.le_of_ble_eq_true rfl) (Nat.le_of_ble_eq_true rfl) dJ7_copyOf_9075b_28 (fun H_8 L_9 hP hD hS => ?_)
    have hP : va_P (dC, dI) vwCl [(a_a_, .inl (g 2, n_a_, .inl a_)), (a_q_2, .inl (g 2, n_5, .inl (va_cpy a_ (fun _ => 0) ((0 : Int32).toNatClampNeg) ((0 : Int32).toNatClampNeg) x_6.toNatClampNeg)))] H_8 := hP
    have hD : va_D A [(a_a_, .inl (g 2, n_a_, .inl a_)), (a_q_2, .inl (g 2, n_5, .inl (va_cpy a_ (fun _ => 0) ((0 : Int32).toNatClampNeg) ((0 : Int32).toNatClampNeg) x_6.toNatClampNeg)))] := hD
    refine lv_aload_n hx hb dJ7_copyOf_9075b_31 rfl (lv_at hl 0 rfl) ?_
    refine W.widen (k := 1) (n := 2000) (by omega) (by omega) ?_
    exact W.aret (v := .ref a_q_2) hx hb hr (Or.inr ⟨_, rfl⟩) (Or.inr ⟨_, rfl⟩) (fun t ht hW => ⟨⟨some a_q_2, (a_q_2, n_5, (va_cpy a_ (fun _ => 0) ((0 : Int32).toNatClampNeg) ((0 : Int32).toNatClampNeg) x_6.toNatClampNeg), ()), rfl, ⟨rfl, hw⟩, ⟨P_at ht hP, hD⟩⟩, hS.F ht⟩) hS.2.2 dJ7_copyOf_9075b_32
  · have hw := hw.1 c_1
    exact hw.elim
theorem dJ5_newCapacity_0f7a4_0 : decode cJ5_newCapacity_0f7a4 0 = .ok (.aload_n 0, 1) := by decide +kernel
theorem dJ5_newCapacity_0f7a4_1 : decode cJ5_newCapacity_0f7a4 1 = .ok (.getfield 15, 3) := by decide +kernel
theorem dJ5_newCapacity_0f7a4_4 : decode cJ5_newCapacity_0f7a4 4 = .ok (.arraylength, 1) := by decide +kernel
theorem dJ5_newCapacity_0f7a4_5 : decode cJ5_newCapacity_0f7a4 5 = .ok (.istore_n 2, 1) := by decide +kernel
theorem dJ5_newCapacity_0f7a4_6 : decode cJ5_newCapacity_0f7a4 6 = .ok (.iload_n 1, 1) := by decide +kernel
theorem dJ5_newCapacity_0f7a4_7 : decode cJ5_newCapacity_0f7a4 7 = .ok (.aload_n 0, 1) := by decide +kernel
theorem dJ5_newCapacity_0f7a4_8 : decode cJ5_newCapacity_0f7a4 8 = .ok (.getfield 22, 3) := by decide +kernel
theorem dJ5_newCapacity_0f7a4_11 : decode cJ5_newCapacity_0f7a4 11 = .ok (.ishl, 1) := by decide +kernel
theorem dJ5_newCapacity_0f7a4_12 : decode cJ5_newCapacity_0f7a4 12 = .ok (.istore_n 3, 1) := by decide +kernel
theorem dJ5_newCapacity_0f7a4_13 : decode cJ5_newCapacity_0f7a4 13 = .ok (.iload_n 3, 1) := by decide +kernel
theorem dJ5_newCapacity_0f7a4_14 : decode cJ5_newCapacity_0f7a4 14 = .ok (.iload_n 2, 1) := by decide +kernel
theorem dJ5_newCapacity_0f7a4_15 : decode cJ5_newCapacity_0f7a4 15 = .ok (.isub, 1) := by decide +kernel
theorem dJ5_newCapacity_0f7a4_16 : decode cJ5_newCapacity_0f7a4 16 = .ok (.istore 4, 2) := by decide +kernel
theorem dJ5_newCapacity_0f7a4_18 : decode cJ5_newCapacity_0f7a4 18 = .ok (.iload_n 2, 1) := by decide +kernel
theorem dJ5_newCapacity_0f7a4_19 : decode cJ5_newCapacity_0f7a4 19 = .ok (.iload 4, 2) := by decide +kernel
theorem dJ5_newCapacity_0f7a4_21 : decode cJ5_newCapacity_0f7a4 21 = .ok (.iload_n 2, 1) := by decide +kernel
theorem dJ5_newCapacity_0f7a4_22 : decode cJ5_newCapacity_0f7a4 22 = .ok (.iconst 2, 1) := by decide +kernel
theorem dJ5_newCapacity_0f7a4_23 : decode cJ5_newCapacity_0f7a4 23 = .ok (.aload_n 0, 1) := by decide +kernel
theorem dJ5_newCapacity_0f7a4_24 : decode cJ5_newCapacity_0f7a4 24 = .ok (.getfield 22, 3) := by decide +kernel
theorem dJ5_newCapacity_0f7a4_27 : decode cJ5_newCapacity_0f7a4 27 = .ok (.ishl, 1) := by decide +kernel
theorem dJ5_newCapacity_0f7a4_28 : decode cJ5_newCapacity_0f7a4 28 = .ok (.iadd, 1) := by decide +kernel
theorem dJ5_newCapacity_0f7a4_29 : decode cJ5_newCapacity_0f7a4 29 = .ok (.invokestatic 114, 3) := by decide +kernel
theorem dJ5_newCapacity_0f7a4_32 : decode cJ5_newCapacity_0f7a4 32 = .ok (.istore 5, 2) := by decide +kernel
theorem dJ5_newCapacity_0f7a4_34 : decode cJ5_newCapacity_0f7a4 34 = .ok (.iload 5, 2) := by decide +kernel
theorem dJ5_newCapacity_0f7a4_36 : decode cJ5_newCapacity_0f7a4 36 = .ok (.ldc 39, 2) := by decide +kernel
theorem dJ5_newCapacity_0f7a4_38 : decode cJ5_newCapacity_0f7a4 38 = .ok (.if_icmp .ne 13, 3) := by decide +kernel
theorem dJ5_newCapacity_0f7a4_51 : decode cJ5_newCapacity_0f7a4 51 = .ok (.iload 5, 2) := by decide +kernel
theorem dJ5_newCapacity_0f7a4_53 : decode cJ5_newCapacity_0f7a4 53 = .ok (.aload_n 0, 1) := by decide +kernel
theorem dJ5_newCapacity_0f7a4_54 : decode cJ5_newCapacity_0f7a4 54 = .ok (.getfield 22, 3) := by decide +kernel
theorem dJ5_newCapacity_0f7a4_57 : decode cJ5_newCapacity_0f7a4 57 = .ok (.ishr, 1) := by decide +kernel
theorem dJ5_newCapacity_0f7a4_58 : decode cJ5_newCapacity_0f7a4 58 = .ok (.ireturn, 1) := by decide +kernel

set_option maxHeartbeats 8000000 in
set_option maxRecDepth 100000 in
theorem c_J5_newCapacity_0f7a4 (l : Launch) (dC : Nat → ClassId) (dI : Nat → Nat → Nat) (g : Nat → ClassId) (a_this_ v_this_ c_this_ : Nat) (f_this_ : Nat → Int32) (k_this_ : Int32) (n_ : Int32) (Q : Int32 → Prop) (hw : wp_J5_newCapacity_0f7a4 c_this_ n_ Q) (sz : Nat) : Met l yJ5_newCapacity_0f7a4 wqJ5_newCapacity_0f7a4 ({ frames := 2, cells := 0, slots := 0, locals := 37 }) (va_Pc [.ref a_this_, .int n_] (PG (dC, dI) g [(a_this_, .inr (1, [.ref v_this_, .int 0, .int 0, .int k_this_])), (v_this_, .inl (g 2, c_this_, .inl f_this_))] sz)) (va_Qi (fun (r : Int32) (u : Unit) => Q r) (fun (u : Unit) t9 => va_P (dC, dI) vwCl [(a_this_, .inr (1, [.ref v_this_, .int 0, .int 0, .int k_this_])), (v_this_, .inl (g 2, c_this_, .inl f_this_))] t9.heap ∧ va_D (va_A [(a_this_, .inr (1, [.ref v_this_, .int 0, .int 0, .int k_this_])), (v_this_, .inl (g 2, c_this_, .inl f_this_))] sz) [(a_this_, .inr (1, [.ref v_this_, .int 0, .int 0, .int k_this_])), (v_this_, .inl (g 2, c_this_, .inl f_this_))]) (va_A [(a_this_, .inr (1, [.ref v_this_, .int 0, .int 0, .int k_this_])), (v_this_, .inl (g 2, c_this_, .inl f_this_))] sz)) 0 0 (va_A [(a_this_, .inr (1, [.ref v_this_, .int 0, .int 0, .int k_this_])), (v_this_, .inl (g 2, c_this_, .inl f_this_))] sz) := by
  refine Met.ofW (cc := cJ5_newCapacity_0f7a4) (maxL := 6) (ret := (some .int)) (by decide) rfl ?_
  intro p e s m args below meth c s₁ B hml hv
  obtain ⟨rfl, hsz, hP, hK, hD0, hG⟩ := hv
  have hx := B.exec
  have hb := B.bytes
  have hr := B.returns
  have hts := atoms_spec (ws := wqJ5_newCapacity_0f7a4) B.pre
  have hown : s.vm.findClass RJ5 = some m.cls := findClass_of_methodNamed B.named
  have hlocks := B.notSynchronized
  subst hsz
  have hD := hD0.self (sz := s.heap.size)
  generalize hAe : va_A [(a_this_, .inr (1, [.ref v_this_, .int 0, .int 0, .int k_this_])), (v_this_, .inl (g 2, c_this_, .inl f_this_))] s.heap.size = A at hD hG ⊢
  have hA : ∀ q : Nat, s.heap.size ≤ q → A q := fun q h => by rw [← hAe]; exact Or.inr h
  have hS : va_S A s.heap s.heap [] := va_S.rf
  have hrc : (headSpec wqJ5_newCapacity_0f7a4 ({ frames := 2, cells := 0, slots := 0, locals := 37 })).room.cells = 0 := rfl
  have hrs : (headSpec wqJ5_newCapacity_0f7a4 ({ frames := 2, cells := 0, slots := 0, locals := 37 })).room.slots = 0 := rfl
  have hl := lv_entry ([.ref a_this_, .int n_]) (n := 6) (Nat.le_of_ble_eq_true rfl)
  rw [lg_entry_eq]
  generalize (lg_sl ([.ref a_this_, .int n_]) ++ List.replicate (6 - (lg_sl ([.ref a_this_, .int n_])).length) Slot.unset).toArray = ls at hl ⊢
  have hl : lv_has ls 6 [(0, .ref a_this_), (1, .int n_)] := hl
  unfold wp_J5_newCapacity_0f7a4 at hw
  have hf15 := hts (Cond.fieldLink RJ5 15 "java/lang/AbstractStringBuilder" "value" "[B") (aw_l aw_6_233)
  have hiJ4 : ∀ w ∈ u_ws RJ4 TJ4 4, w ∈ wqJ5_newCapacity_0f7a4 := fun w h => aw_l (aw_wsJ40 w h)
  have hf22 := hts (Cond.fieldLink RJ5 22 "java/lang/AbstractStringBuilder" "coder" "B") (aw_l aw_6_234)
  have hk39 := hts (Jvm.Cond.constant RJ5 39 2147483647) (aw_l aw_6_123)
  refine lv_aload_n hx hb dJ5_newCapacity_0f7a4_0 rfl (lv_at hl 0 rfl) ?_
  refine va_get (D := (dC, dI)) (ci := 1) (v := .ref v_this_) (C := RJ4) (T := TJ4) (N := 4) hx hb hts hiJ4 hown hK hP 0 rfl rfl 0 (by decide) hf15 (fun _ h9 => h9) rfl dJ5_newCapacity_0f7a4_1 ?_
  refine va_alen hx hb hK hP 1 2 rfl rfl (v := nI c_this_) rfl dJ5_newCapacity_0f7a4_4 ?_
  refine lv_istore_n (lv' := [(2, .int (nI c_this_)), (0, .ref a_this_), (1, .int n_)]) hx hb dJ5_newCapacity_0f7a4_5 rfl hl (by decide) rfl (fun ls hl => ?_)
  refine lv_iload_n hx hb dJ5_newCapacity_0f7a4_6 rfl (lv_at hl 2 rfl) ?_
  refine lv_aload_n hx hb dJ5_newCapacity_0f7a4_7 rfl (lv_at hl 1 rfl) ?_
  refine va_get (D := (dC, dI)) (ci := 1) (v := .int 0) (C := RJ4) (T := TJ4) (N := 4) hx hb hts hiJ4 hown hK hP 0 rfl rfl 1 (by decide) hf22 (fun _ h9 => h9) rfl dJ5_newCapacity_0f7a4_8 ?_
  refine lv_ishl hx hb dJ5_newCapacity_0f7a4_11 ?_
  refine lv_topi (fun x_1 ex_1 => ?_)
  have hw := hw x_1 ex_1
  refine lv_istore_n (lv' := [(3, .int x_1), (2, .int (nI c_this_)), (0, .ref a_this_), (1, .int n_)]) hx hb dJ5_newCapacity_0f7a4_12 rfl hl (by decide) rfl (fun ls hl => ?_)
  refine lv_iload_n hx hb dJ5_newCapacity_0f7a4_13 rfl (lv_at hl 0 rfl) ?_
  refine lv_iload_n hx hb dJ5_newCapacity_0f7a4_14 rfl (lv_at hl 1 rfl) ?_
  refine lv_isub hx hb dJ5_newCapacity_0f7a4_15 ?_
  refine lv_topi (fun x_2 ex_2 => ?_)
  have hw := hw x_2 ex_2
  refine lv_istore (lv' := [(4, .int x_2), (3, .int x_1), (2, .int (nI c_this_)), (0, .ref a_this_), (1, .int n_)]) hx hb dJ5_newCapacity_0f7a4_16 hl (by decide) rfl (fun ls hl => ?_)
  refine lv_iload_n hx hb dJ5_newCapacity_0f7a4_18 rfl (lv_at hl 2 rfl) ?_
  refine lv_iload hx hb dJ5_newCapacity_0f7a4_19 (lv_at hl 0 rfl) ?_
  refine lv_iload_n hx hb dJ5_newCapacity_0f7a4_21 rfl (lv_at hl 2 rfl) ?_
  refine lv_iconst (v := 2) hx hb dJ5_newCapacity_0f7a4_22 (by decide) ?_
  refine lv_aload_n hx hb dJ5_newCapacity_0f7a4_23 rfl (lv_at hl 3 rfl) ?_
  refine va_get (D := (dC, dI)) (ci := 1) (v := .int 0) (C := RJ4) (T := TJ4) (N := 4) hx hb hts hiJ4 hown hK hP 0 rfl rfl 1 (by decide) hf22 (fun _ h9 => h9) rfl dJ5_newCapacity_0f7a4_24 ?_
  refine lv_ishl hx hb dJ5_newCapacity_0f7a4_27 ?_
  refine lv_topi (fun x_3 ex_3 => ?_)
  have hw := hw x_3 ex_3
  refine lv_iadd hx hb dJ5_newCapacity_0f7a4_28 ?_
  refine lv_topi (fun x_4 ex_4 => ?_)
  have hw := hw x_4 ex_4
  have hPs : va_P (dC, dI) vwCl (wcat [[(a_this_, .inr (1, [.ref v_this_, .int 0, .int 0, .int k_this_]))], [(v_this_, .inl (g 2, c_this_, .inl f_this_))]] ++ wcat []) s.heap := by rw [show wcat [] = [] from rfl, List.append_nil]; exact hP
  have hDs : va_D A (wcat [[(a_this_, .inr (1, [.ref v_this_, .int 0, .int 0, .int k_this_]))], [(v_this_, .inl (g 2, c_this_, .inl f_this_))]] ++ wcat []) := by rw [show wcat [] = [] from rfl, List.append_nil]; exact hD
  have hPc : va_P (dC, dI) vwCl [] s.heap := P_r hPs
  have hDc : va_D A [] := D_r hDs
  have hFc : ∀ q, va_A [] s.heap.size q → A q := A_all hDc hA hS.1
  refine va_calli (va_runS (As := [.int (nI c_this_), .int x_2, .int x_4]) (rest := []) ⟨hx, hb, hml, hown, hts⟩ (c_J8_newLength_cabcc l dC dI g (o_ := (nI c_this_)) (m_ := x_2) (p_ := x_4) (hw := hw) (sz := s.heap.size)) (va_cwS 3 hts (gqS aw_6_157 aw_6_158 aw_1_27 aw_6_159) rfl rfl rfl (by decide +kernel) ⟨Nat.le_of_ble_eq_true rfl, Nat.le_of_ble_eq_true rfl⟩) ⟨PG_blind, PG_call hK hG hS hPc hDc hFc⟩ rfl rfl hl.1 rfl (lv_room (Nat.le_of_ble_eq_true rfl)) dJ5_newCapacity_0f7a4_29 ⟨by rw [hrc]; omega, by rw [hrs]; omega⟩) hS (fun q _ h => hFc q h) hFc (fun r_6 u_6 t_6 H_6 L_6 ht_6 hvm_6 hw_6 hB_6 hz_6 hk_6 hS => ?_)
  have hw := hw_6
  rw [ht_6] at hB_6
  obtain ⟨hP1, hD1⟩ := hB_6
  obtain ⟨hP, hD⟩ := join_r hPs hDs hk_6 hFc hP1 hD1
  rw [List.append_nil] at hP hD
  have hP : va_P (dC, dI) vwCl [(a_this_, .inr (1, [.ref v_this_, .int 0, .int 0, .int k_this_])), (v_this_, .inl (g 2, c_this_, .inl f_this_))] H_6 := hP
  have hD : va_D A [(a_this_, .inr (1, [.ref v_this_, .int 0, .int 0, .int k_this_])), (v_this_, .inl (g 2, c_this_, .inl f_this_))] := hD
  refine W.widen (k := 0) (n := 0) (by omega) (by omega) ?_
  refine lv_istore (lv' := [(5, .int r_6), (4, .int x_2), (3, .int x_1), (2, .int (nI c_this_)), (0, .ref a_this_), (1, .int n_)]) hx hb dJ5_newCapacity_0f7a4_32 hl (by decide) rfl (fun ls hl => ?_)
  refine lv_iload hx hb dJ5_newCapacity_0f7a4_34 (lv_at hl 0 rfl) ?_
  refine lv_ldc hx hb hown hk39 dJ5_newCapacity_0f7a4_36 ?_
  refine lv_icmp_ne (tgt := 51) hx hb dJ5_newCapacity_0f7a4_38 (by decide) (fun c_7 => ?_) (fun c_7 => ?_)
  · have hw := hw.2 c_7
    refine lv_iload hx hb dJ5_newCapacity_0f7a4_51 (lv_at hl 0 rfl) ?_
    refine lv_aload_n hx hb dJ5_newCapacity_0f7a4_53 rfl (lv_at hl 4 rfl) ?_
    refine va_get (D := (dC, dI)) (ci := 1) (v := .int 0) (C := RJ4) (T := TJ4) (N := 4) hx hb hts hiJ4 hown hK hP 0 rfl rfl 1 (by decide) hf22 (fun _ h9 => h9) rfl dJ5_newCapacity_0f7a4_54 ?_
    refine lv_ishr hx hb dJ5_newCapacity_0f7a4_57 ?_
    refine lv_topi (fun x_8 ex_8 => ?_)
    have hw := hw x_8 ex_8
    refine W.widen (k := 0) (n := 0) (by omega) (by omega) ?_
    exact W.iret (v := x_8) hx hb hr (fun t ht hW => ⟨⟨x_8, (()), rfl, hw, ⟨P_at ht hP, hD⟩⟩, hS.F ht⟩) hS.2.2 dJ5_newCapacity_0f7a4_58
  · have hw := hw.1 c_7
    exact hw.elim
theorem dJ5_ensureCapacityInternal_d00df_0 : decode cJ5_ensureCapacityInternal_d00df 0 = .ok (.aload_n 0, 1) := by decide +kernel
theorem dJ5_ensureCapacityInternal_d00df_1 : decode cJ5_ensureCapacityInternal_d00df 1 = .ok (.getfield 15, 3) := by decide +kernel
theorem dJ5_ensureCapacityInternal_d00df_4 : decode cJ5_ensureCapacityInternal_d00df 4 = .ok (.arraylength, 1) := by decide +kernel
theorem dJ5_ensureCapacityInternal_d00df_5 : decode cJ5_ensureCapacityInternal_d00df 5 = .ok (.aload_n 0, 1) := by decide +kernel
theorem dJ5_ensureCapacityInternal_d00df_6 : decode cJ5_ensureCapacityInternal_d00df 6 = .ok (.getfield 22, 3) := by decide +kernel
theorem dJ5_ensureCapacityInternal_d00df_9 : decode cJ5_ensureCapacityInternal_d00df 9 = .ok (.ishr, 1) := by decide +kernel
theorem dJ5_ensureCapacityInternal_d00df_10 : decode cJ5_ensureCapacityInternal_d00df 10 = .ok (.istore_n 2, 1) := by decide +kernel
theorem dJ5_ensureCapacityInternal_d00df_11 : decode cJ5_ensureCapacityInternal_d00df 11 = .ok (.iload_n 1, 1) := by decide +kernel
theorem dJ5_ensureCapacityInternal_d00df_12 : decode cJ5_ensureCapacityInternal_d00df 12 = .ok (.iload_n 2, 1) := by decide +kernel
theorem dJ5_ensureCapacityInternal_d00df_13 : decode cJ5_ensureCapacityInternal_d00df 13 = .ok (.isub, 1) := by decide +kernel
theorem dJ5_ensureCapacityInternal_d00df_14 : decode cJ5_ensureCapacityInternal_d00df 14 = .ok (.ifCond .le 24, 3) := by decide +kernel
theorem dJ5_ensureCapacityInternal_d00df_38 : decode cJ5_ensureCapacityInternal_d00df 38 = .ok (.return_, 1) := by decide +kernel
theorem dJ5_ensureCapacityInternal_d00df_17 : decode cJ5_ensureCapacityInternal_d00df 17 = .ok (.aload_n 0, 1) := by decide +kernel
theorem dJ5_ensureCapacityInternal_d00df_18 : decode cJ5_ensureCapacityInternal_d00df 18 = .ok (.aload_n 0, 1) := by decide +kernel
theorem dJ5_ensureCapacityInternal_d00df_19 : decode cJ5_ensureCapacityInternal_d00df 19 = .ok (.getfield 15, 3) := by decide +kernel
theorem dJ5_ensureCapacityInternal_d00df_22 : decode cJ5_ensureCapacityInternal_d00df 22 = .ok (.aload_n 0, 1) := by decide +kernel
theorem dJ5_ensureCapacityInternal_d00df_23 : decode cJ5_ensureCapacityInternal_d00df 23 = .ok (.iload_n 1, 1) := by decide +kernel
theorem dJ5_ensureCapacityInternal_d00df_24 : decode cJ5_ensureCapacityInternal_d00df 24 = .ok (.invokevirtual 104, 3) := by decide +kernel
theorem dJ5_ensureCapacityInternal_d00df_27 : decode cJ5_ensureCapacityInternal_d00df 27 = .ok (.aload_n 0, 1) := by decide +kernel
theorem dJ5_ensureCapacityInternal_d00df_28 : decode cJ5_ensureCapacityInternal_d00df 28 = .ok (.getfield 22, 3) := by decide +kernel
theorem dJ5_ensureCapacityInternal_d00df_31 : decode cJ5_ensureCapacityInternal_d00df 31 = .ok (.ishl, 1) := by decide +kernel
theorem dJ5_ensureCapacityInternal_d00df_32 : decode cJ5_ensureCapacityInternal_d00df 32 = .ok (.invokestatic 108, 3) := by decide +kernel
theorem dJ5_ensureCapacityInternal_d00df_35 : decode cJ5_ensureCapacityInternal_d00df 35 = .ok (.putfield 15, 3) := by decide +kernel

set_option maxHeartbeats 8000000 in
set_option maxRecDepth 100000 in
theorem c_J5_ensureCapacityInternal_d00df (l : Launch) (dC : Nat → ClassId) (dI : Nat → Nat → Nat) (g : Nat → ClassId) (a_this_ v_this_ c_this_ : Nat) (f_this_ : Nat → Int32) (k_this_ : Int32) (n_ : Int32) (Q : Nat → (Nat → Int32) → Int32 → Prop) (hw : wp_J5_ensureCapacityInternal_d00df c_this_ f_this_ k_this_ n_ Q) (sz : Nat) : Met l yJ5_ensureCapacityInternal_d00df wqJ5_ensureCapacityInternal_d00df ({ frames := 3, cells := 1, slots := 2000, locals := 82 }) (va_Pc [.ref a_this_, .int n_] (PG (dC, dI) g [(a_this_, .inr (1, [.ref v_this_, .int 0, .int 0, .int k_this_])), (v_this_, .inl (g 2, c_this_, .inl f_this_))] sz)) (va_Qv (fun (u : Nat × Nat × (Nat → Int32) × Int32 × Unit) => Q u.2.1 u.2.2.1 u.2.2.2.1) (fun (u : Nat × Nat × (Nat → Int32) × Int32 × Unit) t9 => va_P (dC, dI) vwCl [(a_this_, .inr (1, [.ref u.1, .int 0, .int 0, .int u.2.2.2.1])), (u.1, .inl (g 2, u.2.1, .inl u.2.2.1))] t9.heap ∧ va_D (va_A [(a_this_, .inr (1, [.ref v_this_, .int 0, .int 0, .int k_this_])), (v_this_, .inl (g 2, c_this_, .inl f_this_))] sz) [(a_this_, .inr (1, [.ref u.1, .int 0, .int 0, .int u.2.2.2.1])), (u.1, .inl (g 2, u.2.1, .inl u.2.2.1))]) (va_A [(a_this_, .inr (1, [.ref v_this_, .int 0, .int 0, .int k_this_])), (v_this_, .inl (g 2, c_this_, .inl f_this_))] sz)) 1 2000 (va_A [(a_this_, .inr (1, [.ref v_this_, .int 0, .int 0, .int k_this_])), (v_this_, .inl (g 2, c_this_, .inl f_this_))] sz) := by
  refine Met.ofW (cc := cJ5_ensureCapacityInternal_d00df) (maxL := 3) (ret := none) (by decide) rfl ?_
  intro p e s m args below meth c s₁ B hml hv
  obtain ⟨rfl, hsz, hP, hK, hD0, hG⟩ := hv
  have hx := B.exec
  have hb := B.bytes
  have hr := B.returns
  have hts := atoms_spec (ws := wqJ5_ensureCapacityInternal_d00df) B.pre
  have hown : s.vm.findClass RJ5 = some m.cls := findClass_of_methodNamed B.named
  have hlocks := B.notSynchronized
  subst hsz
  have hD := hD0.self (sz := s.heap.size)
  generalize hAe : va_A [(a_this_, .inr (1, [.ref v_this_, .int 0, .int 0, .int k_this_])), (v_this_, .inl (g 2, c_this_, .inl f_this_))] s.heap.size = A at hD hG ⊢
  have hA : ∀ q : Nat, s.heap.size ≤ q → A q := fun q h => by rw [← hAe]; exact Or.inr h
  have hS : va_S A s.heap s.heap [] := va_S.rf
  have hrc : (headSpec wqJ5_ensureCapacityInternal_d00df ({ frames := 3, cells := 1, slots := 2000, locals := 82 })).room.cells = 1 := rfl
  have hrs : (headSpec wqJ5_ensureCapacityInternal_d00df ({ frames := 3, cells := 1, slots := 2000, locals := 82 })).room.slots = 2000 := rfl
  have hl := lv_entry ([.ref a_this_, .int n_]) (n := 3) (Nat.le_of_ble_eq_true rfl)
  rw [lg_entry_eq]
  generalize (lg_sl ([.ref a_this_, .int n_]) ++ List.replicate (3 - (lg_sl ([.ref a_this_, .int n_])).length) Slot.unset).toArray = ls at hl ⊢
  have hl : lv_has ls 3 [(0, .ref a_this_), (1, .int n_)] := hl
  unfold wp_J5_ensureCapacityInternal_d00df at hw
  have hf15 := hts (Cond.fieldLink RJ5 15 "java/lang/AbstractStringBuilder" "value" "[B") (aw_l aw_6_233)
  have hiJ4 : ∀ w ∈ u_ws RJ4 TJ4 4, w ∈ wqJ5_ensureCapacityInternal_d00df := fun w h => aw_l (aw_wsJ40 w h)
  have hf22 := hts (Cond.fieldLink RJ5 22 "java/lang/AbstractStringBuilder" "coder" "B") (aw_l aw_6_234)
  refine lv_aload_n hx hb dJ5_ensureCapacityInternal_d00df_0 rfl (lv_at hl 0 rfl) ?_
  refine va_get (D := (dC, dI)) (ci := 1) (v := .ref v_this_) (C := RJ4) (T := TJ4) (N := 4) hx hb hts hiJ4 hown hK hP 0 rfl rfl 0 (by decide) hf15 (fun _ h9 => h9) rfl dJ5_ensureCapacityInternal_d00df_1 ?_
  refine va_alen hx hb hK hP 1 2 rfl rfl (v := nI c_this_) rfl dJ5_ensureCapacityInternal_d00df_4 ?_
  refine lv_aload_n hx hb dJ5_ensureCapacityInternal_d00df_5 rfl (lv_at hl 0 rfl) ?_
  refine va_get (D := (dC, dI)) (ci := 1) (v := .int 0) (C := RJ4) (T := TJ4) (N := 4) hx hb hts hiJ4 hown hK hP 0 rfl rfl 1 (by decide) hf22 (fun _ h9 => h9) rfl dJ5_ensureCapacityInternal_d00df_6 ?_
  refine lv_ishr hx hb dJ5_ensureCapacityInternal_d00df_9 ?_
  refine lv_topi (fun x_1 ex_1 => ?_)
  have hw := hw x_1 ex_1
  refine lv_istore_n (lv' := [(2, .int x_1), (0, .ref a_this_), (1, .int n_)]) hx hb dJ5_ensureCapacityInternal_d00df_10 rfl hl (by decide) rfl (fun ls hl => ?_)
  refine lv_iload_n hx hb dJ5_ensureCapacityInternal_d00df_11 rfl (lv_at hl 2 rfl) ?_
  refine lv_iload_n hx hb dJ5_ensureCapacityInternal_d00df_12 rfl (lv_at hl 0 rfl) ?_
  refine lv_isub hx hb dJ5_ensureCapacityInternal_d00df_13 ?_
  refine lv_topi (fun x_2 ex_2 => ?_)
  have hw := hw x_2 ex_2
  refine lv_if_le (tgt := 38) hx hb dJ5_ensureCapacityInternal_d00df_14 (by decide) (fun c_3 => ?_) (fun c_3 => ?_)
  · have hw := hw.1 c_3
    refine W.widen (k := 1) (n := 2000) (by omega) (by omega) ?_
    exact W.vret hx hb hr (fun t ht hW => ⟨⟨(v_this_, c_this_, f_this_, k_this_, ()), rfl, hw, ⟨P_at ht hP, hD⟩⟩, hS.F ht⟩) hS.2.2 dJ5_ensureCapacityInternal_d00df_38
  · have hw := hw.2 c_3
    refine lv_aload_n hx hb dJ5_ensureCapacityInternal_d00df_17 rfl (lv_at hl 1 rfl) ?_
    refine lv_aload_n hx hb dJ5_ensureCapacityInternal_d00df_18 rfl (lv_at hl 1 rfl) ?_
    refine va_get (D := (dC, dI)) (ci := 1) (v := .ref v_this_) (C := RJ4) (T := TJ4) (N := 4) hx hb hts hiJ4 hown hK hP 0 rfl rfl 0 (by decide) hf15 (fun _ h9 => h9) rfl dJ5_ensureCapacityInternal_d00df_19 ?_
    refine lv_aload_n hx hb dJ5_ensureCapacityInternal_d00df_22 rfl (lv_at hl 1 rfl) ?_
    refine lv_iload_n hx hb dJ5_ensureCapacityInternal_d00df_23 rfl (lv_at hl 2 rfl) ?_
    obtain ⟨hPs, hDs⟩ := seg_call (segs := [[(a_this_, .inr (1, [.ref v_this_, .int 0, .int 0, .int k_this_]))], [(v_this_, .inl (g 2, c_this_, .inl f_this_))]]) [] [[(a_this_, .inr (1, [.ref v_this_, .int 0, .int 0, .int k_this_]))], [(v_this_, .inl (g 2, c_this_, .inl f_this_))]] 2 [0, 1] rfl rfl (by decide) hP hD
    have hPc : va_P (dC, dI) vwCl [(a_this_, .inr (1, [.ref v_this_, .int 0, .int 0, .int k_this_])), (v_this_, .inl (g 2, c_this_, .inl f_this_))] s.heap := P_r hPs
    have hDc : va_D A [(a_this_, .inr (1, [.ref v_this_, .int 0, .int 0, .int k_this_])), (v_this_, .inl (g 2, c_this_, .inl f_this_))] := D_r hDs
    have hFc : ∀ q, va_A [(a_this_, .inr (1, [.ref v_this_, .int 0, .int 0, .int k_this_])), (v_this_, .inl (g 2, c_this_, .inl f_this_))] s.heap.size q → A q := A_all hDc hA hS.1
    refine va_calli (va_runU (As := [.int n_]) (rest := [.ref v_this_, .ref a_this_]) ⟨hx, hb, hml, hown, hts⟩ (c_J5_newCapacity_0f7a4 l dC dI g (a_this_ := a_this_) (v_this_ := v_this_) (c_this_ := c_this_) (f_this_ := f_this_) (k_this_ := k_this_) (n_ := n_) (hw := hw) (sz := s.heap.size)) (va_cwU 1 hts (gqU aw_6_153 aw_7_218 aw_9_2 aw_6_155 aw_1_25 aw_6_156) rfl rfl rfl rfl (by decide +kernel) ⟨Nat.le_of_ble_eq_true rfl, Nat.le_of_ble_eq_true rfl⟩) ⟨PG_blind, va_recv hK hP (ci := 1) (q0 := 0) rfl rfl, PG_call hK hG hS hPc hDc hFc⟩ rfl rfl hl.1 rfl (lv_room (Nat.le_of_ble_eq_true rfl)) dJ5_ensureCapacityInternal_d00df_24 ⟨by rw [hrc]; omega, by rw [hrs]; omega⟩) hS (fun q _ h => hFc q h) hFc (fun r_5 u_5 t_5 H_5 L_5 ht_5 hvm_5 hw_5 hB_5 hz_5 hk_5 hS => ?_)
    have hw := hw_5
    rw [ht_5] at hB_5
    obtain ⟨hP1, hD1⟩ := hB_5
    obtain ⟨hP, hD⟩ := join_r hPs hDs hk_5 hFc hP1 hD1
    obtain ⟨hP, hD⟩ := seg_join [] [[(a_this_, .inr (1, [.ref v_this_, .int 0, .int 0, .int k_this_]))], [(v_this_, .inl (g 2, c_this_, .inl f_this_))]] [[(a_this_, .inr (1, [.ref v_this_, .int 0, .int 0, .int k_this_]))], [(v_this_, .inl (g 2, c_this_, .inl f_this_))]] 2 [0, 1] rfl rfl (by decide) hP hD
    have hP : va_P (dC, dI) vwCl [(a_this_, .inr (1, [.ref v_this_, .int 0, .int 0, .int k_this_])), (v_this_, .inl (g 2, c_this_, .inl f_this_))] H_5 := hP
    have hD : va_D A [(a_this_, .inr (1, [.ref v_this_, .int 0, .int 0, .int k_this_])), (v_this_, .inl (g 2, c_this_, .inl f_this_))] := hD
    refine W.widen (k := 0) (n := 0) (by omega) (by omega) ?_
    refine lv_aload_n hx hb dJ5_ensureCapacityInternal_d00df_27 rfl (lv_at hl 1 rfl) ?_
    refine va_get (D := (dC, dI)) (ci := 1) (v := .int 0) (C := RJ4) (T := TJ4) (N := 4) hx hb hts hiJ4 hown hK hP 0 rfl rfl 1 (by decide) hf22 (fun _ h9 => h9) rfl dJ5_ensureCapacityInternal_d00df_28 ?_
    refine lv_ishl hx hb dJ5_ensureCapacityInternal_d00df_31 ?_
    refine lv_topi (fun x_6 ex_6 => ?_)
    have hw := hw x_6 ex_6
    obtain ⟨hPs, hDs⟩ := seg_call (segs := [[(a_this_, .inr (1, [.ref v_this_, .int 0, .int 0, .int k_this_]))], [(v_this_, .inl (g 2, c_this_, .inl f_this_))]]) [[(a_this_, .inr (1, [.ref v_this_, .int 0, .int 0, .int k_this_]))]] [[(v_this_, .inl (g 2, c_this_, .inl f_this_))]] 2 [0, 1] rfl rfl (by decide) hP hD
    have hPc : va_P (dC, dI) vwCl [(v_this_, .inl (g 2, c_this_, .inl f_this_))] H_5 := P_r hPs
    have hDc : va_D A [(v_this_, .inl (g 2, c_this_, .inl f_this_))] := D_r hDs
    have hFc : ∀ q, va_A [(v_this_, .inl (g 2, c_this_, .inl f_this_))] H_5.size q → A q := A_all hDc hA hS.1
    refine va_callq (va_runS (As := [.ref v_this_, .int x_6]) (rest := [.ref a_this_]) ⟨hx, hb, hml, hown, hts⟩ (c_J7_copyOf_9075b l dC dI g (a_a_ := v_this_) (n_a_ := c_this_) (a_ := f_this_) (n_ := x_6) (hw := hw) (sz := H_5.size)) (va_cwS 2 hts (gqS aw_6_165 aw_6_166 aw_1_28 aw_6_167) rfl rfl rfl (by decide +kernel) ⟨Nat.le_of_ble_eq_true rfl, Nat.le_of_ble_eq_true rfl⟩) ⟨PG_blind, PG_call hK hG hS hPc hDc hFc⟩ rfl rfl hl.1 rfl (lv_room (Nat.le_of_ble_eq_true rfl)) dJ5_ensureCapacityInternal_d00df_32 ⟨by rw [hrc]; omega, by rw [hrs]; omega⟩) hS (fun q _ h => hFc q h) hFc (fun r_8 u_8 t_8 H_8 L_8 ht_8 hvm_8 hw_8 hB_8 hz_8 hk_8 hS => ?_)
    obtain ⟨a_q_9, n_10, f_11, u_8⟩ := u_8
    obtain ⟨rfl, hw⟩ := hw_8
    rw [ht_8] at hB_8
    obtain ⟨hP1, hD1⟩ := hB_8
    obtain ⟨hP, hD⟩ := join_r hPs hDs hk_8 hFc hP1 hD1
    obtain ⟨hP, hD⟩ := seg_join [[(a_this_, .inr (1, [.ref v_this_, .int 0, .int 0, .int k_this_]))]] [[(v_this_, .inl (g 2, c_this_, .inl f_this_))], [(a_q_9, .inl (g 2, n_10, .inl f_11))]] [[(a_this_, .inr (1, [.ref v_this_, .int 0, .int 0, .int k_this_]))], [(v_this_, .inl (g 2, c_this_, .inl f_this_))], [(a_q_9, .inl (g 2, n_10, .inl f_11))]] 3 [0, 1, 2] rfl rfl (by decide) hP hD
    have hP : va_P (dC, dI) vwCl [(a_this_, .inr (1, [.ref v_this_, .int 0, .int 0, .int k_this_])), (v_this_, .inl (g 2, c_this_, .inl f_this_)), (a_q_9, .inl (g 2, n_10, .inl f_11))] H_8 := hP
    have hD : va_D A [(a_this_, .inr (1, [.ref v_this_, .int 0, .int 0, .int k_this_])), (v_this_, .inl (g 2, c_this_, .inl f_this_)), (a_q_9, .inl (g 2, n_10, .inl f_11))] := hD
    refine W.widen (k := 1) (n := 2000) (by omega) (by omega) ?_
    refine va_put (D := (dC, dI)) (ci := 1) (v := .ref a_q_9) (ty := .array .byte) (C := RJ4) (T := TJ4) (N := 4) hx hb hts hiJ4 tyJ4 tyJ4_ok nmJ4 hown hK hP hD hS 0 rfl rfl 0 (by decide) hf15 (fun _ h9 => h9) rfl (by decide +kernel) rfl rfl (Nat.le_of_ble_eq_true rfl) dJ5_ensureCapacityInternal_d00df_35 (fun H_12 L_13 hP hD hS => ?_)
    have hP : va_P (dC, dI) vwCl [(a_this_, .inr (1, [.ref a_q_9, .int 0, .int 0, .int k_this_])), (v_this_, .inl (g 2, c_this_, .inl f_this_)), (a_q_9, .inl (g 2, n_10, .inl f_11))] H_12 := hP
    have hD : va_D A [(a_this_, .inr (1, [.ref a_q_9, .int 0, .int 0, .int k_this_])), (v_this_, .inl (g 2, c_this_, .inl f_this_)), (a_q_9, .inl (g 2, n_10, .inl f_11))] := hD
    refine W.widen (k := 1) (n := 2000) (by omega) (by omega) ?_
    obtain ⟨hP, hD⟩ := seg_sub (segs := [[(a_this_, .inr (1, [.ref a_q_9, .int 0, .int 0, .int k_this_]))], [(v_this_, .inl (g 2, c_this_, .inl f_this_))], [(a_q_9, .inl (g 2, n_10, .inl f_11))]]) [[(a_this_, .inr (1, [.ref a_q_9, .int 0, .int 0, .int k_this_]))], [(a_q_9, .inl (g 2, n_10, .inl f_11))]] [[(v_this_, .inl (g 2, c_this_, .inl f_this_))]] 3 [0, 2, 1] rfl rfl (by decide) hP hD
    exact W.vret hx hb hr (fun t ht hW => ⟨⟨(a_q_9, n_10, f_11, k_this_, ()), rfl, hw, ⟨P_at ht hP, hD⟩⟩, hS.F ht⟩) hS.2.2 dJ5_ensureCapacityInternal_d00df_38
theorem dJ5_inflateIfNeededFor_a7421_0 : decode cJ5_inflateIfNeededFor_a7421 0 = .ok (.getstatic 18, 3) := by decide +kernel
theorem dJ5_inflateIfNeededFor_a7421_3 : decode cJ5_inflateIfNeededFor_a7421 3 = .ok (.ifCond .eq 18, 3) := by decide +kernel
theorem dJ5_inflateIfNeededFor_a7421_6 : decode cJ5_inflateIfNeededFor_a7421 6 = .ok (.aload_n 0, 1) := by decide +kernel
theorem dJ5_inflateIfNeededFor_a7421_7 : decode cJ5_inflateIfNeededFor_a7421 7 = .ok (.getfield 22, 3) := by decide +kernel
theorem dJ5_inflateIfNeededFor_a7421_10 : decode cJ5_inflateIfNeededFor_a7421 10 = .ok (.aload_n 1, 1) := by decide +kernel
theorem dJ5_inflateIfNeededFor_a7421_11 : decode cJ5_inflateIfNeededFor_a7421 11 = .ok (.invokevirtual 40, 3) := by decide +kernel
theorem dJ5_inflateIfNeededFor_a7421_14 : decode cJ5_inflateIfNeededFor_a7421 14 = .ok (.if_icmp .eq 7, 3) := by decide +kernel
theorem dJ5_inflateIfNeededFor_a7421_21 : decode cJ5_inflateIfNeededFor_a7421 21 = .ok (.return_, 1) := by decide +kernel

set_option maxHeartbeats 8000000 in
set_option maxRecDepth 100000 in
theorem c_J5_inflateIfNeededFor_a7421 (l : Launch) (dC : Nat → ClassId) (dI : Nat → Nat → Nat) (g : Nat → ClassId) (a_this_ v_this_ c_this_ : Nat) (f_this_ : Nat → Int32) (k_this_ : Int32) (a_s_ s__n : Nat) (s__f : Nat → Int32) (Q : Prop) (hw : wp_J5_inflateIfNeededFor_a7421 Q) (sz : Nat) : Met l yJ5_inflateIfNeededFor_a7421 wqJ5_inflateIfNeededFor_a7421 ({ frames := 1, cells := 0, slots := 0, locals := 20 }) (va_Pc [.ref a_this_, .ref a_s_] (PX (GSb s__n s__f a_s_) (dC, dI) g [(a_this_, .inr (1, [.ref v_this_, .int 0, .int 0, .int k_this_])), (v_this_, .inl (g 2, c_this_, .inl f_this_))] sz)) (va_Qv (fun (u : Unit) => Q) (fun (u : Unit) t9 => va_P (dC, dI) vwCl [(a_this_, .inr (1, [.ref v_this_, .int 0, .int 0, .int k_this_])), (v_this_, .inl (g 2, c_this_, .inl f_this_))] t9.heap ∧ va_D (va_A [(a_this_, .inr (1, [.ref v_this_, .int 0, .int 0, .int k_this_])), (v_this_, .inl (g 2, c_this_, .inl f_this_))] sz) [(a_this_, .inr (1, [.ref v_this_, .int 0, .int 0, .int k_this_])), (v_this_, .inl (g 2, c_this_, .inl f_this_))]) (va_A [(a_this_, .inr (1, [.ref v_this_, .int 0, .int 0, .int k_this_])), (v_this_, .inl (g 2, c_this_, .inl f_this_))] sz)) 0 0 (va_A [(a_this_, .inr (1, [.ref v_this_, .int 0, .int 0, .int k_this_])), (v_this_, .inl (g 2, c_this_, .inl f_this_))] sz) := by
  refine Met.ofW (cc := cJ5_inflateIfNeededFor_a7421) (maxL := 2) (ret := none) (by decide) rfl ?_
  intro p e s m args below meth c s₁ B hml hv
  obtain ⟨rfl, ⟨hsz, hP, hK, hD0, hG⟩, hT⟩ := hv
  have hx := B.exec
  have hb := B.bytes
  have hr := B.returns
  have hts := atoms_spec (ws := wqJ5_inflateIfNeededFor_a7421) B.pre
  have hown : s.vm.findClass RJ5 = some m.cls := findClass_of_methodNamed B.named
  have hlocks := B.notSynchronized
  subst hsz
  have hD := hD0.self (sz := s.heap.size)
  generalize hAe : va_A [(a_this_, .inr (1, [.ref v_this_, .int 0, .int 0, .int k_this_])), (v_this_, .inl (g 2, c_this_, .inl f_this_))] s.heap.size = A at hD hG hT ⊢
  have hA : ∀ q : Nat, s.heap.size ≤ q → A q := fun q h => by rw [← hAe]; exact Or.inr h
  have hS : va_S A s.heap s.heap [] := va_S.rf
  have hrc : (headSpec wqJ5_inflateIfNeededFor_a7421 ({ frames := 1, cells := 0, slots := 0, locals := 20 })).room.cells = 0 := rfl
  have hrs : (headSpec wqJ5_inflateIfNeededFor_a7421 ({ frames := 1, cells := 0, slots := 0, locals := 20 })).room.slots = 0 := rfl
  have hl := lv_entry ([.ref a_this_, .ref a_s_]) (n := 2) (Nat.le_of_ble_eq_true rfl)
  rw [lg_entry_eq]
  generalize (lg_sl ([.ref a_this_, .ref a_s_]) ++ List.replicate (2 - (lg_sl ([.ref a_this_, .ref a_s_])).length) Slot.unset).toArray = ls at hl ⊢
  have hl : lv_has ls 2 [(0, .ref a_this_), (1, .ref a_s_)] := hl
  unfold wp_J5_inflateIfNeededFor_a7421 at hw
  have hf18 := hts (Cond.fieldLink RJ5 18 "java/lang/String" "COMPACT_STRINGS" "Z") (aw_l aw_6_184)
  have hf22 := hts (Cond.fieldLink RJ5 22 "java/lang/AbstractStringBuilder" "coder" "B") (aw_l aw_6_234)
  have hiJ4 : ∀ w ∈ u_ws RJ4 TJ4 4, w ∈ wqJ5_inflateIfNeededFor_a7421 := fun w h => aw_l (aw_wsJ40 w h)
  refine va_gets hx hb (cs_z hG) hS hown hf18 (fun _ h9 => h9) dJ5_inflateIfNeededFor_a7421_0 ?_
  refine lv_if_eq (tgt := 21) hx hb dJ5_inflateIfNeededFor_a7421_3 (by decide) (fun c_1 => absurd c_1 (by decide)) (fun _ => ?_)
  refine lv_aload_n hx hb dJ5_inflateIfNeededFor_a7421_6 rfl (lv_at hl 0 rfl) ?_
  refine va_get (D := (dC, dI)) (ci := 1) (v := .int 0) (C := RJ4) (T := TJ4) (N := 4) hx hb hts hiJ4 hown hK hP 0 rfl rfl 1 (by decide) hf22 (fun _ h9 => h9) rfl dJ5_inflateIfNeededFor_a7421_7 ?_
  refine lv_aload_n hx hb dJ5_inflateIfNeededFor_a7421_10 rfl (lv_at hl 1 rfl) ?_
  have hPs : va_P (dC, dI) vwCl (wcat [[(a_this_, .inr (1, [.ref v_this_, .int 0, .int 0, .int k_this_]))], [(v_this_, .inl (g 2, c_this_, .inl f_this_))]] ++ wcat []) s.heap := by rw [show wcat [] = [] from rfl, List.append_nil]; exact hP
  have hDs : va_D A (wcat [[(a_this_, .inr (1, [.ref v_this_, .int 0, .int 0, .int k_this_]))], [(v_this_, .inl (g 2, c_this_, .inl f_this_))]] ++ wcat []) := by rw [show wcat [] = [] from rfl, List.append_nil]; exact hD
  have hPc : va_P (dC, dI) vwCl [] s.heap := P_r hPs
  have hDc : va_D A [] := D_r hDs
  have hFc : ∀ q, va_A [] s.heap.size q → A q := A_all hDc hA hS.1
  refine va_calli (va_runV (As := []) (rest := [.int 0]) ⟨hx, hb, hml, hown, hts⟩ (c_J0_coder_7d493 l dC dI g (a_this_ := a_s_) (this__n := s__n) (this__f := s__f) (hw := hw) (sz := s.heap.size)) (cwV 0 hts (gqV aw_6_124 aw_5_85 aw_5_86 aw_1_21 aw_5_87) rfl rfl rfl (by decide +kernel) ⟨Nat.le_of_ble_eq_true rfl, Nat.le_of_ble_eq_true rfl⟩) ⟨PX_blind (GSb_go s__n s__f a_s_), GSb_recv hT hS, PX_call (GSb_go s__n s__f a_s_) hK hG hS hPc hDc hFc hT⟩ rfl rfl hl.1 rfl (lv_room (Nat.le_of_ble_eq_true rfl)) dJ5_inflateIfNeededFor_a7421_11 ⟨by rw [hrc]; omega, by rw [hrs]; omega⟩) hS (fun q _ h => hFc q h) hFc (fun r_3 u_3 t_3 H_3 L_3 ht_3 hvm_3 hw_3 hB_3 hz_3 hk_3 hS => ?_)
  have hw := hw_3
  obtain ⟨rfl, hw⟩ := hw
  rw [ht_3] at hB_3
  obtain ⟨hP1, hD1⟩ := hB_3
  obtain ⟨hP, hD⟩ := join_r hPs hDs hk_3 hFc hP1 hD1
  rw [List.append_nil] at hP hD
  have hP : va_P (dC, dI) vwCl [(a_this_, .inr (1, [.ref v_this_, .int 0, .int 0, .int k_this_])), (v_this_, .inl (g 2, c_this_, .inl f_this_))] H_3 := hP
  have hD : va_D A [(a_this_, .inr (1, [.ref v_this_, .int 0, .int 0, .int k_this_])), (v_this_, .inl (g 2, c_this_, .inl f_this_))] := hD
  refine W.widen (k := 0) (n := 0) (by omega) (by omega) ?_
  refine lv_icmp_eq (tgt := 21) hx hb dJ5_inflateIfNeededFor_a7421_14 (by decide) (fun _ => ?_) (fun c_4 => absurd (by decide) c_4)
  refine W.widen (k := 0) (n := 0) (by omega) (by omega) ?_
  exact W.vret hx hb hr (fun t ht hW => ⟨⟨(()), rfl, hw, ⟨P_at ht hP, hD⟩⟩, hS.F ht⟩) hS.2.2 dJ5_inflateIfNeededFor_a7421_21
theorem dJ0_getBytes_840e7_0 : decode cJ0_getBytes_840e7 0 = .ok (.aload_n 0, 1) := by decide +kernel
theorem dJ0_getBytes_840e7_1 : decode cJ0_getBytes_840e7 1 = .ok (.invokevirtual 335, 3) := by decide +kernel
theorem dJ0_getBytes_840e7_4 : decode cJ0_getBytes_840e7 4 = .ok (.iload_n 3, 1) := by decide +kernel
theorem dJ0_getBytes_840e7_5 : decode cJ0_getBytes_840e7 5 = .ok (.if_icmp .ne 23, 3) := by decide +kernel
theorem dJ0_getBytes_840e7_8 : decode cJ0_getBytes_840e7 8 = .ok (.aload_n 0, 1) := by decide +kernel
theorem dJ0_getBytes_840e7_9 : decode cJ0_getBytes_840e7 9 = .ok (.getfield 9, 3) := by decide +kernel
theorem dJ0_getBytes_840e7_12 : decode cJ0_getBytes_840e7 12 = .ok (.iconst 0, 1) := by decide +kernel
theorem dJ0_getBytes_840e7_13 : decode cJ0_getBytes_840e7 13 = .ok (.aload_n 1, 1) := by decide +kernel
theorem dJ0_getBytes_840e7_14 : decode cJ0_getBytes_840e7 14 = .ok (.iload_n 2, 1) := by decide +kernel
theorem dJ0_getBytes_840e7_15 : decode cJ0_getBytes_840e7 15 = .ok (.iload_n 3, 1) := by decide +kernel
theorem dJ0_getBytes_840e7_16 : decode cJ0_getBytes_840e7 16 = .ok (.ishl, 1) := by decide +kernel
theorem dJ0_getBytes_840e7_17 : decode cJ0_getBytes_840e7 17 = .ok (.aload_n 0, 1) := by decide +kernel
theorem dJ0_getBytes_840e7_18 : decode cJ0_getBytes_840e7 18 = .ok (.getfield 9, 3) := by decide +kernel
theorem dJ0_getBytes_840e7_21 : decode cJ0_getBytes_840e7 21 = .ok (.arraylength, 1) := by decide +kernel
theorem dJ0_getBytes_840e7_22 : decode cJ0_getBytes_840e7 22 = .ok (.invokestatic 212, 3) := by decide +kernel
theorem dJ0_getBytes_840e7_25 : decode cJ0_getBytes_840e7 25 = .ok (.goto 18, 3) := by decide +kernel
theorem dJ0_getBytes_840e7_43 : decode cJ0_getBytes_840e7 43 = .ok (.return_, 1) := by decide +kernel

set_option maxHeartbeats 8000000 in
set_option maxRecDepth 100000 in
theorem c_J0_getBytes_840e7 (l : Launch) (dC : Nat → ClassId) (dI : Nat → Nat → Nat) (g : Nat → ClassId) (a_this_ this__n : Nat) (this__f : Nat → Int32) (a_dst n_dst : Nat) (dst : Nat → Int32) (off : Int32) (c_ : Int32) (Q : (Nat → Int32) → Prop) (hw : wp_J0_getBytes_840e7 this__n this__f n_dst dst off c_ Q) (sz : Nat) : Met l yJ0_getBytes_840e7 wqJ0_getBytes_840e7 ({ frames := 1, cells := 0, slots := 0, locals := 60 }) (va_Pc [.ref a_this_, .ref a_dst, .int off, .int c_] (PX (GSb this__n this__f a_this_) (dC, dI) g [(a_dst, .inl (g 2, n_dst, .inl dst))] sz)) (va_Qv (fun (u : (Nat → Int32) × Unit) => Q u.1) (fun (u : (Nat → Int32) × Unit) t9 => va_P (dC, dI) vwCl [(a_dst, .inl (g 2, n_dst, .inl u.1))] t9.heap ∧ va_D (va_A [(a_dst, .inl (g 2, n_dst, .inl dst))] sz) [(a_dst, .inl (g 2, n_dst, .inl u.1))]) (va_A [(a_dst, .inl (g 2, n_dst, .inl dst))] sz)) 0 0 (va_A [(a_dst, .inl (g 2, n_dst, .inl dst))] sz) := by
  refine Met.ofW (cc := cJ0_getBytes_840e7) (maxL := 4) (ret := none) (by decide) rfl ?_
  intro p e s m args below meth c s₁ B hml hv
  obtain ⟨rfl, ⟨hsz, hP, hK, hD0, hG⟩, hT⟩ := hv
  have hx := B.exec
  have hb := B.bytes
  have hr := B.returns
  have hts := atoms_spec (ws := wqJ0_getBytes_840e7) B.pre
  have hown : s.vm.findClass RJ0 = some m.cls := findClass_of_methodNamed B.named
  have hlocks := B.notSynchronized
  subst hsz
  have hD := hD0.self (sz := s.heap.size)
  generalize hAe : va_A [(a_dst, .inl (g 2, n_dst, .inl dst))] s.heap.size = A at hD hG hT ⊢
  have hA : ∀ q : Nat, s.heap.size ≤ q → A q := fun q h => by rw [← hAe]; exact Or.inr h
  have hS : va_S A s.heap s.heap [] := va_S.rf
  have hrc : (headSpec wqJ0_getBytes_840e7 ({ frames := 1, cells := 0, slots := 0, locals := 60 })).room.cells = 0 := rfl
  have hrs : (headSpec wqJ0_getBytes_840e7 ({ frames := 1, cells := 0, slots := 0, locals := 60 })).room.slots = 0 := rfl
  have hl := lv_entry ([.ref a_this_, .ref a_dst, .int off, .int c_]) (n := 4) (Nat.le_of_ble_eq_true rfl)
  rw [lg_entry_eq]
  generalize (lg_sl ([.ref a_this_, .ref a_dst, .int off, .int c_]) ++ List.replicate (4 - (lg_sl ([.ref a_this_, .ref a_dst, .int off, .int c_])).length) Slot.unset).toArray = ls at hl ⊢
  have hl : lv_has ls 4 [(0, .ref a_this_), (1, .ref a_dst), (2, .int off), (3, .int c_)] := hl
  unfold wp_J0_getBytes_840e7 at hw
  have hf9 := hts (Cond.fieldLink RJ0 9 "java/lang/String" "value" "[B") (aw_l aw_7_107)
  obtain ⟨v9, hO9, hC9, hV9, hY9⟩ := id hT
  have hac212_0 := hts (Cond.methodLink RJ0 212 arraycopyName) (aw_l aw_6_231)
  have hac212_1 := hts (Cond.native arraycopyName) (aw_l aw_6_178)
  have hac212_2 := hts (Cond.static arraycopyName) (aw_l aw_6_177)
  have hac212_3 := hts (Cond.initialized "java/lang/System") (aw_l aw_1_29)
  refine lv_aload_n hx hb dJ0_getBytes_840e7_0 rfl (lv_at hl 0 rfl) ?_
  have hPs : va_P (dC, dI) vwCl (wcat [[(a_dst, .inl (g 2, n_dst, .inl dst))]] ++ wcat []) s.heap := by rw [show wcat [] = [] from rfl, List.append_nil]; exact hP
  have hDs : va_D A (wcat [[(a_dst, .inl (g 2, n_dst, .inl dst))]] ++ wcat []) := by rw [show wcat [] = [] from rfl, List.append_nil]; exact hD
  have hPc : va_P (dC, dI) vwCl [] s.heap := P_r hPs
  have hDc : va_D A [] := D_r hDs
  have hFc : ∀ q, va_A [] s.heap.size q → A q := A_all hDc hA hS.1
  refine va_calli (va_runV (As := []) (rest := []) ⟨hx, hb, hml, hown, hts⟩ (c_J0_coder_7d493 l dC dI g (a_this_ := a_this_) (this__n := this__n) (this__f := this__f) (hw := hw) (sz := s.heap.size)) (cwV 0 hts (gqV aw_5_84 aw_5_85 aw_5_86 aw_1_21 aw_5_87) rfl rfl rfl (by decide +kernel) ⟨Nat.le_of_ble_eq_true rfl, Nat.le_of_ble_eq_true rfl⟩) ⟨PX_blind (GSb_go this__n this__f a_this_), GSb_recv hT hS, PX_call (GSb_go this__n this__f a_this_) hK hG hS hPc hDc hFc hT⟩ rfl rfl hl.1 rfl (lv_room (Nat.le_of_ble_eq_true rfl)) dJ0_getBytes_840e7_1 ⟨by rw [hrc]; omega, by rw [hrs]; omega⟩) hS (fun q _ h => hFc q h) hFc (fun r_2 u_2 t_2 H_2 L_2 ht_2 hvm_2 hw_2 hB_2 hz_2 hk_2 hS => ?_)
  have hw := hw_2
  obtain ⟨rfl, hw⟩ := hw
  rw [ht_2] at hB_2
  obtain ⟨hP1, hD1⟩ := hB_2
  obtain ⟨hP, hD⟩ := join_r hPs hDs hk_2 hFc hP1 hD1
  rw [List.append_nil] at hP hD
  have hP : va_P (dC, dI) vwCl [(a_dst, .inl (g 2, n_dst, .inl dst))] H_2 := hP
  have hD : va_D A [(a_dst, .inl (g 2, n_dst, .inl dst))] := hD
  refine W.widen (k := 0) (n := 0) (by omega) (by omega) ?_
  refine lv_iload_n hx hb dJ0_getBytes_840e7_4 rfl (lv_at hl 3 rfl) ?_
  refine lv_icmp_ne (tgt := 28) hx hb dJ0_getBytes_840e7_5 (by decide) (fun c_3 => ?_) (fun c_3 => ?_)
  · have hw := hw.2 c_3
    exact hw.elim
  · have hw := hw.1 c_3
    refine lv_aload_n hx hb dJ0_getBytes_840e7_8 rfl (lv_at hl 0 rfl) ?_
    refine vk_getf hx hb hV9 hS hown hf9 (fun _ h9 => h9) dJ0_getBytes_840e7_9 ?_
    refine lv_iconst (v := 0) hx hb dJ0_getBytes_840e7_12 (by decide) ?_
    refine lv_aload_n hx hb dJ0_getBytes_840e7_13 rfl (lv_at hl 1 rfl) ?_
    refine lv_iload_n hx hb dJ0_getBytes_840e7_14 rfl (lv_at hl 2 rfl) ?_
    refine lv_iload_n hx hb dJ0_getBytes_840e7_15 rfl (lv_at hl 3 rfl) ?_
    refine lv_ishl hx hb dJ0_getBytes_840e7_16 ?_
    refine lv_topi (fun x_4 ex_4 => ?_)
    have hw := hw x_4 ex_4
    refine lv_aload_n hx hb dJ0_getBytes_840e7_17 rfl (lv_at hl 0 rfl) ?_
    refine vk_getf hx hb hV9 hS hown hf9 (fun _ h9 => h9) dJ0_getBytes_840e7_18 ?_
    refine va_tlen hx hb hY9 hS (v := nI this__n) rfl dJ0_getBytes_840e7_21 ?_
    obtain ⟨hc_81, hc_82, hc_83, hc_84, hc_85, hc_86, hw⟩ := hw
    refine vk_copyt hx hb (hml.trans hl.1.symm) hown hac212_0 hac212_1 hac212_2 hac212_3 hK hP hD hS hY9 0 2 rfl rfl hc_81 hc_82 hc_83 hc_84 hc_85 hc_86 (Nat.le_of_ble_eq_true rfl) (Nat.le_of_ble_eq_true rfl) dJ0_getBytes_840e7_22 (fun H_6 L_7 hP hD hS => ?_)
    have hP : va_P (dC, dI) vwCl [(a_dst, .inl (g 2, n_dst, .inl (va_cpy this__f dst ((0 : Int32).toNatClampNeg) x_4.toNatClampNeg (((nI this__n) : Int32).toNatClampNeg))))] H_6 := hP
    have hD : va_D A [(a_dst, .inl (g 2, n_dst, .inl (va_cpy this__f dst ((0 : Int32).toNatClampNeg) x_4.toNatClampNeg (((nI this__n) : Int32).toNatClampNeg))))] := hD
    refine lv_goto (tgt := 43) hx hb dJ0_getBytes_840e7_25 (by decide) ?_
    refine W.widen (k := 0) (n := 0) (by omega) (by omega) ?_
    exact W.vret hx hb hr (fun t ht hW => ⟨⟨((va_cpy this__f dst ((0 : Int32).toNatClampNeg) x_4.toNatClampNeg (((nI this__n) : Int32).toNatClampNeg)), ()), rfl, hw, ⟨P_at ht hP, hD⟩⟩, hS.F ht⟩) hS.2.2 dJ0_getBytes_840e7_43
theorem dJ5_putStringAt_47b60_0 : decode cJ5_putStringAt_47b60 0 = .ok (.aload_n 0, 1) := by decide +kernel
theorem dJ5_putStringAt_47b60_1 : decode cJ5_putStringAt_47b60 1 = .ok (.aload_n 2, 1) := by decide +kernel
theorem dJ5_putStringAt_47b60_2 : decode cJ5_putStringAt_47b60 2 = .ok (.invokevirtual 397, 3) := by decide +kernel
theorem dJ5_putStringAt_47b60_5 : decode cJ5_putStringAt_47b60 5 = .ok (.aload_n 2, 1) := by decide +kernel
theorem dJ5_putStringAt_47b60_6 : decode cJ5_putStringAt_47b60 6 = .ok (.aload_n 0, 1) := by decide +kernel
theorem dJ5_putStringAt_47b60_7 : decode cJ5_putStringAt_47b60 7 = .ok (.getfield 15, 3) := by decide +kernel
theorem dJ5_putStringAt_47b60_10 : decode cJ5_putStringAt_47b60 10 = .ok (.iload_n 1, 1) := by decide +kernel
theorem dJ5_putStringAt_47b60_11 : decode cJ5_putStringAt_47b60 11 = .ok (.aload_n 0, 1) := by decide +kernel
theorem dJ5_putStringAt_47b60_12 : decode cJ5_putStringAt_47b60 12 = .ok (.getfield 22, 3) := by decide +kernel
theorem dJ5_putStringAt_47b60_15 : decode cJ5_putStringAt_47b60 15 = .ok (.invokevirtual 399, 3) := by decide +kernel
theorem dJ5_putStringAt_47b60_18 : decode cJ5_putStringAt_47b60 18 = .ok (.return_, 1) := by decide +kernel

set_option maxHeartbeats 8000000 in
set_option maxRecDepth 100000 in
theorem c_J5_putStringAt_47b60 (l : Launch) (dC : Nat → ClassId) (dI : Nat → Nat → Nat) (g : Nat → ClassId) (a_this_ v_this_ c_this_ : Nat) (f_this_ : Nat → Int32) (k_this_ : Int32) (off : Int32) (a_s_ s__n : Nat) (s__f : Nat → Int32) (Q : Nat → (Nat → Int32) → Int32 → Prop) (hw : wp_J5_putStringAt_47b60 c_this_ f_this_ k_this_ off s__n s__f Q) (sz : Nat) : Met l yJ5_putStringAt_47b60 wqJ5_putStringAt_47b60 ({ frames := 2, cells := 0, slots := 0, locals := 83 }) (va_Pc [.ref a_this_, .int off, .ref a_s_] (PX (GSb s__n s__f a_s_) (dC, dI) g [(a_this_, .inr (1, [.ref v_this_, .int 0, .int 0, .int k_this_])), (v_this_, .inl (g 2, c_this_, .inl f_this_))] sz)) (va_Qv (fun (u : Nat × Nat × (Nat → Int32) × Int32 × Unit) => Q u.2.1 u.2.2.1 u.2.2.2.1) (fun (u : Nat × Nat × (Nat → Int32) × Int32 × Unit) t9 => va_P (dC, dI) vwCl [(a_this_, .inr (1, [.ref u.1, .int 0, .int 0, .int u.2.2.2.1])), (u.1, .inl (g 2, u.2.1, .inl u.2.2.1))] t9.heap ∧ va_D (va_A [(a_this_, .inr (1, [.ref v_this_, .int 0, .int 0, .int k_this_])), (v_this_, .inl (g 2, c_this_, .inl f_this_))] sz) [(a_this_, .inr (1, [.ref u.1, .int 0, .int 0, .int u.2.2.2.1])), (u.1, .inl (g 2, u.2.1, .inl u.2.2.1))]) (va_A [(a_this_, .inr (1, [.ref v_this_, .int 0, .int 0, .int k_this_])), (v_this_, .inl (g 2, c_this_, .inl f_this_))] sz)) 0 0 (va_A [(a_this_, .inr (1, [.ref v_this_, .int 0, .int 0, .int k_this_])), (v_this_, .inl (g 2, c_this_, .inl f_this_))] sz) := by
  refine Met.ofW (cc := cJ5_putStringAt_47b60) (maxL := 3) (ret := none) (by decide) rfl ?_
  intro p e s m args below meth c s₁ B hml hv
  obtain ⟨rfl, ⟨hsz, hP, hK, hD0, hG⟩, hT⟩ := hv
  have hx := B.exec
  have hb := B.bytes
  have hr := B.returns
  have hts := atoms_spec (ws := wqJ5_putStringAt_47b60) B.pre
  have hown : s.vm.findClass RJ5 = some m.cls := findClass_of_methodNamed B.named
  have hlocks := B.notSynchronized
  subst hsz
  have hD := hD0.self (sz := s.heap.size)
  generalize hAe : va_A [(a_this_, .inr (1, [.ref v_this_, .int 0, .int 0, .int k_this_])), (v_this_, .inl (g 2, c_this_, .inl f_this_))] s.heap.size = A at hD hG hT ⊢
  have hA : ∀ q : Nat, s.heap.size ≤ q → A q := fun q h => by rw [← hAe]; exact Or.inr h
  have hS : va_S A s.heap s.heap [] := va_S.rf
  have hrc : (headSpec wqJ5_putStringAt_47b60 ({ frames := 2, cells := 0, slots := 0, locals := 83 })).room.cells = 0 := rfl
  have hrs : (headSpec wqJ5_putStringAt_47b60 ({ frames := 2, cells := 0, slots := 0, locals := 83 })).room.slots = 0 := rfl
  have hl := lv_entry ([.ref a_this_, .int off, .ref a_s_]) (n := 3) (Nat.le_of_ble_eq_true rfl)
  rw [lg_entry_eq]
  generalize (lg_sl ([.ref a_this_, .int off, .ref a_s_]) ++ List.replicate (3 - (lg_sl ([.ref a_this_, .int off, .ref a_s_])).length) Slot.unset).toArray = ls at hl ⊢
  have hl : lv_has ls 3 [(0, .ref a_this_), (1, .int off), (2, .ref a_s_)] := hl
  unfold wp_J5_putStringAt_47b60 at hw
  have hf15 := hts (Cond.fieldLink RJ5 15 "java/lang/AbstractStringBuilder" "value" "[B") (aw_l aw_6_233)
  have hiJ4 : ∀ w ∈ u_ws RJ4 TJ4 4, w ∈ wqJ5_putStringAt_47b60 := fun w h => aw_l (aw_wsJ40 w h)
  have hf22 := hts (Cond.fieldLink RJ5 22 "java/lang/AbstractStringBuilder" "coder" "B") (aw_l aw_6_234)
  refine lv_aload_n hx hb dJ5_putStringAt_47b60_0 rfl (lv_at hl 0 rfl) ?_
  refine lv_aload_n hx hb dJ5_putStringAt_47b60_1 rfl (lv_at hl 2 rfl) ?_
  obtain ⟨hPs, hDs⟩ := seg_call (segs := [[(a_this_, .inr (1, [.ref v_this_, .int 0, .int 0, .int k_this_]))], [(v_this_, .inl (g 2, c_this_, .inl f_this_))]]) [] [[(a_this_, .inr (1, [.ref v_this_, .int 0, .int 0, .int k_this_]))], [(v_this_, .inl (g 2, c_this_, .inl f_this_))]] 2 [0, 1] rfl rfl (by decide) hP hD
  have hPc : va_P (dC, dI) vwCl [(a_this_, .inr (1, [.ref v_this_, .int 0, .int 0, .int k_this_])), (v_this_, .inl (g 2, c_this_, .inl f_this_))] s.heap := P_r hPs
  have hDc : va_D A [(a_this_, .inr (1, [.ref v_this_, .int 0, .int 0, .int k_this_])), (v_this_, .inl (g 2, c_this_, .inl f_this_))] := D_r hDs
  have hFc : ∀ q, va_A [(a_this_, .inr (1, [.ref v_this_, .int 0, .int 0, .int k_this_])), (v_this_, .inl (g 2, c_this_, .inl f_this_))] s.heap.size q → A q := A_all hDc hA hS.1
  refine va_callv (va_runU (As := [.ref a_s_]) (rest := []) ⟨hx, hb, hml, hown, hts⟩ (c_J5_inflateIfNeededFor_a7421 l dC dI g (a_this_ := a_this_) (v_this_ := v_this_) (c_this_ := c_this_) (f_this_ := f_this_) (k_this_ := k_this_) (a_s_ := a_s_) (s__n := s__n) (s__f := s__f) (hw := hw) (sz := s.heap.size)) (va_cwU 1 hts (gqU aw_6_204 aw_7_220 aw_9_4 aw_6_206 aw_1_25 aw_6_207) rfl rfl rfl rfl (by decide +kernel) ⟨Nat.le_of_ble_eq_true rfl, Nat.le_of_ble_eq_true rfl⟩) ⟨PX_blind (GSb_go s__n s__f a_s_), va_recv hK hP (ci := 1) (q0 := 0) rfl rfl, PX_call (GSb_go s__n s__f a_s_) hK hG hS hPc hDc hFc hT⟩ rfl rfl hl.1 rfl (lv_room (Nat.le_of_ble_eq_true rfl)) dJ5_putStringAt_47b60_2 ⟨by rw [hrc]; omega, by rw [hrs]; omega⟩) hS (fun q _ h => hFc q h) hFc (fun u_2 t_2 H_2 L_2 ht_2 hvm_2 hw_2 hB_2 hz_2 hk_2 hS => ?_)
  have hw := hw_2
  rw [ht_2] at hB_2
  obtain ⟨hP1, hD1⟩ := hB_2
  obtain ⟨hP, hD⟩ := join_r hPs hDs hk_2 hFc hP1 hD1
  obtain ⟨hP, hD⟩ := seg_join [] [[(a_this_, .inr (1, [.ref v_this_, .int 0, .int 0, .int k_this_]))], [(v_this_, .inl (g 2, c_this_, .inl f_this_))]] [[(a_this_, .inr (1, [.ref v_this_, .int 0, .int 0, .int k_this_]))], [(v_this_, .inl (g 2, c_this_, .inl f_this_))]] 2 [0, 1] rfl rfl (by decide) hP hD
  have hP : va_P (dC, dI) vwCl [(a_this_, .inr (1, [.ref v_this_, .int 0, .int 0, .int k_this_])), (v_this_, .inl (g 2, c_this_, .inl f_this_))] H_2 := hP
  have hD : va_D A [(a_this_, .inr (1, [.ref v_this_, .int 0, .int 0, .int k_this_])), (v_this_, .inl (g 2, c_this_, .inl f_this_))] := hD
  refine W.widen (k := 0) (n := 0) (by omega) (by omega) ?_
  refine lv_aload_n hx hb dJ5_putStringAt_47b60_5 rfl (lv_at hl 2 rfl) ?_
  refine lv_aload_n hx hb dJ5_putStringAt_47b60_6 rfl (lv_at hl 0 rfl) ?_
  refine va_get (D := (dC, dI)) (ci := 1) (v := .ref v_this_) (C := RJ4) (T := TJ4) (N := 4) hx hb hts hiJ4 hown hK hP 0 rfl rfl 0 (by decide) hf15 (fun _ h9 => h9) rfl dJ5_putStringAt_47b60_7 ?_
  refine lv_iload_n hx hb dJ5_putStringAt_47b60_10 rfl (lv_at hl 1 rfl) ?_
  refine lv_aload_n hx hb dJ5_putStringAt_47b60_11 rfl (lv_at hl 0 rfl) ?_
  refine va_get (D := (dC, dI)) (ci := 1) (v := .int 0) (C := RJ4) (T := TJ4) (N := 4) hx hb hts hiJ4 hown hK hP 0 rfl rfl 1 (by decide) hf22 (fun _ h9 => h9) rfl dJ5_putStringAt_47b60_12 ?_
  obtain ⟨hPs, hDs⟩ := seg_call (segs := [[(a_this_, .inr (1, [.ref v_this_, .int 0, .int 0, .int k_this_]))], [(v_this_, .inl (g 2, c_this_, .inl f_this_))]]) [[(a_this_, .inr (1, [.ref v_this_, .int 0, .int 0, .int k_this_]))]] [[(v_this_, .inl (g 2, c_this_, .inl f_this_))]] 2 [0, 1] rfl rfl (by decide) hP hD
  have hPc : va_P (dC, dI) vwCl [(v_this_, .inl (g 2, c_this_, .inl f_this_))] H_2 := P_r hPs
  have hDc : va_D A [(v_this_, .inl (g 2, c_this_, .inl f_this_))] := D_r hDs
  have hFc : ∀ q, va_A [(v_this_, .inl (g 2, c_this_, .inl f_this_))] H_2.size q → A q := A_all hDc hA hS.1
  refine va_callv (va_runV (As := [.ref v_this_, .int off, .int 0]) (rest := []) ⟨hx, hb, hml, hown, hts⟩ (c_J0_getBytes_840e7 l dC dI g (a_this_ := a_s_) (this__n := s__n) (this__f := s__f) (a_dst := v_this_) (n_dst := c_this_) (dst := f_this_) (off := off) (c_ := 0) (hw := hw) (sz := H_2.size)) (cwV 3 hts (gqV aw_6_227 aw_6_228 aw_6_229 aw_1_21 aw_6_230) rfl rfl rfl (by decide +kernel) ⟨Nat.le_of_ble_eq_true rfl, Nat.le_of_ble_eq_true rfl⟩) ⟨PX_blind (GSb_go s__n s__f a_s_), GSb_recv hT hS, PX_call (GSb_go s__n s__f a_s_) hK hG hS hPc hDc hFc hT⟩ rfl rfl hl.1 rfl (lv_room (Nat.le_of_ble_eq_true rfl)) dJ5_putStringAt_47b60_15 ⟨by rw [hrc]; omega, by rw [hrs]; omega⟩) hS (fun q _ h => hFc q h) hFc (fun u_4 t_4 H_4 L_4 ht_4 hvm_4 hw_4 hB_4 hz_4 hk_4 hS => ?_)
  obtain ⟨xdst_5, u_4⟩ := u_4
  have hw := hw_4
  rw [ht_4] at hB_4
  obtain ⟨hP1, hD1⟩ := hB_4
  obtain ⟨hP, hD⟩ := join_r hPs hDs hk_4 hFc hP1 hD1
  obtain ⟨hP, hD⟩ := seg_join [[(a_this_, .inr (1, [.ref v_this_, .int 0, .int 0, .int k_this_]))]] [[(v_this_, .inl (g 2, c_this_, .inl xdst_5))]] [[(a_this_, .inr (1, [.ref v_this_, .int 0, .int 0, .int k_this_]))], [(v_this_, .inl (g 2, c_this_, .inl xdst_5))]] 2 [0, 1] rfl rfl (by decide) hP hD
  have hP : va_P (dC, dI) vwCl [(a_this_, .inr (1, [.ref v_this_, .int 0, .int 0, .int k_this_])), (v_this_, .inl (g 2, c_this_, .inl xdst_5))] H_4 := hP
  have hD : va_D A [(a_this_, .inr (1, [.ref v_this_, .int 0, .int 0, .int k_this_])), (v_this_, .inl (g 2, c_this_, .inl xdst_5))] := hD
  refine W.widen (k := 0) (n := 0) (by omega) (by omega) ?_
  refine W.widen (k := 0) (n := 0) (by omega) (by omega) ?_
  exact W.vret hx hb hr (fun t ht hW => ⟨⟨(v_this_, c_this_, xdst_5, k_this_, ()), rfl, hw, ⟨P_at ht hP, hD⟩⟩, hS.F ht⟩) hS.2.2 dJ5_putStringAt_47b60_18
theorem dJ5_append_cf1ce_0 : decode cJ5_append_cf1ce 0 = .ok (.aload_n 1, 1) := by decide +kernel
theorem dJ5_append_cf1ce_1 : decode cJ5_append_cf1ce 1 = .ok (.ifnonnull 8, 3) := by decide +kernel
theorem dJ5_append_cf1ce_9 : decode cJ5_append_cf1ce 9 = .ok (.aload_n 1, 1) := by decide +kernel
theorem dJ5_append_cf1ce_10 : decode cJ5_append_cf1ce 10 = .ok (.invokevirtual 32, 3) := by decide +kernel
theorem dJ5_append_cf1ce_13 : decode cJ5_append_cf1ce 13 = .ok (.istore_n 2, 1) := by decide +kernel
theorem dJ5_append_cf1ce_14 : decode cJ5_append_cf1ce 14 = .ok (.aload_n 0, 1) := by decide +kernel
theorem dJ5_append_cf1ce_15 : decode cJ5_append_cf1ce 15 = .ok (.aload_n 0, 1) := by decide +kernel
theorem dJ5_append_cf1ce_16 : decode cJ5_append_cf1ce 16 = .ok (.getfield 79, 3) := by decide +kernel
theorem dJ5_append_cf1ce_19 : decode cJ5_append_cf1ce 19 = .ok (.iload_n 2, 1) := by decide +kernel
theorem dJ5_append_cf1ce_20 : decode cJ5_append_cf1ce 20 = .ok (.iadd, 1) := by decide +kernel
theorem dJ5_append_cf1ce_21 : decode cJ5_append_cf1ce 21 = .ok (.invokevirtual 100, 3) := by decide +kernel
theorem dJ5_append_cf1ce_24 : decode cJ5_append_cf1ce 24 = .ok (.aload_n 0, 1) := by decide +kernel
theorem dJ5_append_cf1ce_25 : decode cJ5_append_cf1ce 25 = .ok (.aload_n 0, 1) := by decide +kernel
theorem dJ5_append_cf1ce_26 : decode cJ5_append_cf1ce 26 = .ok (.getfield 79, 3) := by decide +kernel
theorem dJ5_append_cf1ce_29 : decode cJ5_append_cf1ce 29 = .ok (.aload_n 1, 1) := by decide +kernel
theorem dJ5_append_cf1ce_30 : decode cJ5_append_cf1ce 30 = .ok (.invokevirtual 208, 3) := by decide +kernel
theorem dJ5_append_cf1ce_33 : decode cJ5_append_cf1ce 33 = .ok (.aload_n 0, 1) := by decide +kernel
theorem dJ5_append_cf1ce_34 : decode cJ5_append_cf1ce 34 = .ok (.dup, 1) := by decide +kernel
theorem dJ5_append_cf1ce_35 : decode cJ5_append_cf1ce 35 = .ok (.getfield 79, 3) := by decide +kernel
theorem dJ5_append_cf1ce_38 : decode cJ5_append_cf1ce 38 = .ok (.iload_n 2, 1) := by decide +kernel
theorem dJ5_append_cf1ce_39 : decode cJ5_append_cf1ce 39 = .ok (.iadd, 1) := by decide +kernel
theorem dJ5_append_cf1ce_40 : decode cJ5_append_cf1ce 40 = .ok (.putfield 79, 3) := by decide +kernel
theorem dJ5_append_cf1ce_43 : decode cJ5_append_cf1ce 43 = .ok (.aload_n 0, 1) := by decide +kernel
theorem dJ5_append_cf1ce_44 : decode cJ5_append_cf1ce 44 = .ok (.areturn, 1) := by decide +kernel

set_option maxHeartbeats 8000000 in
set_option maxRecDepth 100000 in
theorem c_J5_append_cf1ce (l : Launch) (dC : Nat → ClassId) (dI : Nat → Nat → Nat) (g : Nat → ClassId) (a_this_ v_this_ c_this_ : Nat) (f_this_ : Nat → Int32) (k_this_ : Int32) (a_s_ s__n : Nat) (s__f : Nat → Int32) (Q : Nat → (Nat → Int32) → Int32 → Prop) (hw : wp_J5_append_cf1ce c_this_ f_this_ k_this_ s__n s__f Q) (sz : Nat) : Met l yJ5_append_cf1ce wqJ5_append_cf1ce ({ frames := 4, cells := 1, slots := 2000, locals := 105 }) (va_Pc [.ref a_this_, .ref a_s_] (PX (GSb s__n s__f a_s_) (dC, dI) g [(a_this_, .inr (1, [.ref v_this_, .int 0, .int 0, .int k_this_])), (v_this_, .inl (g 2, c_this_, .inl f_this_))] sz)) (va_Qq (fun (r : Option Nat) (u : Nat × Nat × (Nat → Int32) × Int32 × Unit) => r = some a_this_ ∧ (Q u.2.1 u.2.2.1 u.2.2.2.1)) (fun (u : Nat × Nat × (Nat → Int32) × Int32 × Unit) t9 => va_P (dC, dI) vwCl [(a_this_, .inr (1, [.ref u.1, .int 0, .int 0, .int u.2.2.2.1])), (u.1, .inl (g 2, u.2.1, .inl u.2.2.1))] t9.heap ∧ va_D (va_A [(a_this_, .inr (1, [.ref v_this_, .int 0, .int 0, .int k_this_])), (v_this_, .inl (g 2, c_this_, .inl f_this_))] sz) [(a_this_, .inr (1, [.ref u.1, .int 0, .int 0, .int u.2.2.2.1])), (u.1, .inl (g 2, u.2.1, .inl u.2.2.1))]) (va_A [(a_this_, .inr (1, [.ref v_this_, .int 0, .int 0, .int k_this_])), (v_this_, .inl (g 2, c_this_, .inl f_this_))] sz)) 1 2000 (va_A [(a_this_, .inr (1, [.ref v_this_, .int 0, .int 0, .int k_this_])), (v_this_, .inl (g 2, c_this_, .inl f_this_))] sz) := by
  refine Met.ofW (cc := cJ5_append_cf1ce) (maxL := 3) (ret := (some (.object "java/lang/AbstractStringBuilder"))) (by decide) rfl ?_
  intro p e s m args below meth c s₁ B hml hv
  obtain ⟨rfl, ⟨hsz, hP, hK, hD0, hG⟩, hT⟩ := hv
  have hx := B.exec
  have hb := B.bytes
  have hr := B.returns
  have hts := atoms_spec (ws := wqJ5_append_cf1ce) B.pre
  have hown : s.vm.findClass RJ5 = some m.cls := findClass_of_methodNamed B.named
  have hlocks := B.notSynchronized
  subst hsz
  have hD := hD0.self (sz := s.heap.size)
  generalize hAe : va_A [(a_this_, .inr (1, [.ref v_this_, .int 0, .int 0, .int k_this_])), (v_this_, .inl (g 2, c_this_, .inl f_this_))] s.heap.size = A at hD hG hT ⊢
  have hA : ∀ q : Nat, s.heap.size ≤ q → A q := fun q h => by rw [← hAe]; exact Or.inr h
  have hS : va_S A s.heap s.heap [] := va_S.rf
  have hrc : (headSpec wqJ5_append_cf1ce ({ frames := 4, cells := 1, slots := 2000, locals := 105 })).room.cells = 1 := rfl
  have hrs : (headSpec wqJ5_append_cf1ce ({ frames := 4, cells := 1, slots := 2000, locals := 105 })).room.slots = 2000 := rfl
  have hl := lv_entry ([.ref a_this_, .ref a_s_]) (n := 3) (Nat.le_of_ble_eq_true rfl)
  rw [lg_entry_eq]
  generalize (lg_sl ([.ref a_this_, .ref a_s_]) ++ List.replicate (3 - (lg_sl ([.ref a_this_, .ref a_s_])).length) Slot.unset).toArray = ls at hl ⊢
  have hl : lv_has ls 3 [(0, .ref a_this_), (1, .ref a_s_)] := hl
  unfold wp_J5_append_cf1ce at hw
  have hf79 := hts (Cond.fieldLink RJ5 79 "java/lang/AbstractStringBuilder" "count" "I") (aw_l aw_6_236)
  have hiJ4 : ∀ w ∈ u_ws RJ4 TJ4 4, w ∈ wqJ5_append_cf1ce := fun w h => aw_l (aw_wsJ40 w h)
  refine lv_aload_n hx hb dJ5_append_cf1ce_0 rfl (lv_at hl 1 rfl) ?_
  refine lv_ifnonnull (tgt := 9) hx hb dJ5_append_cf1ce_1 (by decide) ?_
  refine lv_aload_n hx hb dJ5_append_cf1ce_9 rfl (lv_at hl 1 rfl) ?_
  have hPs : va_P (dC, dI) vwCl (wcat [[(a_this_, .inr (1, [.ref v_this_, .int 0, .int 0, .int k_this_]))], [(v_this_, .inl (g 2, c_this_, .inl f_this_))]] ++ wcat []) s.heap := by rw [show wcat [] = [] from rfl, List.append_nil]; exact hP
  have hDs : va_D A (wcat [[(a_this_, .inr (1, [.ref v_this_, .int 0, .int 0, .int k_this_]))], [(v_this_, .inl (g 2, c_this_, .inl f_this_))]] ++ wcat []) := by rw [show wcat [] = [] from rfl, List.append_nil]; exact hD
  have hPc : va_P (dC, dI) vwCl [] s.heap := P_r hPs
  have hDc : va_D A [] := D_r hDs
  have hFc : ∀ q, va_A [] s.heap.size q → A q := A_all hDc hA hS.1
  refine va_calli (va_runV (As := []) (rest := []) ⟨hx, hb, hml, hown, hts⟩ (c_J0_length_8abf5 l dC dI g (a_this_ := a_s_) (this__n := s__n) (this__f := s__f) (hw := hw) (sz := s.heap.size)) (cwV 0 hts (gqV aw_6_121 aw_5_81 aw_5_82 aw_1_21 aw_5_83) rfl rfl rfl (by decide +kernel) ⟨Nat.le_of_ble_eq_true rfl, Nat.le_of_ble_eq_true rfl⟩) ⟨PX_blind (GSb_go s__n s__f a_s_), GSb_recv hT hS, PX_call (GSb_go s__n s__f a_s_) hK hG hS hPc hDc hFc hT⟩ rfl rfl hl.1 rfl (lv_room (Nat.le_of_ble_eq_true rfl)) dJ5_append_cf1ce_10 ⟨by rw [hrc]; omega, by rw [hrs]; omega⟩) hS (fun q _ h => hFc q h) hFc (fun r_2 u_2 t_2 H_2 L_2 ht_2 hvm_2 hw_2 hB_2 hz_2 hk_2 hS => ?_)
  have hw := hw_2
  rw [ht_2] at hB_2
  obtain ⟨hP1, hD1⟩ := hB_2
  obtain ⟨hP, hD⟩ := join_r hPs hDs hk_2 hFc hP1 hD1
  rw [List.append_nil] at hP hD
  have hP : va_P (dC, dI) vwCl [(a_this_, .inr (1, [.ref v_this_, .int 0, .int 0, .int k_this_])), (v_this_, .inl (g 2, c_this_, .inl f_this_))] H_2 := hP
  have hD : va_D A [(a_this_, .inr (1, [.ref v_this_, .int 0, .int 0, .int k_this_])), (v_this_, .inl (g 2, c_this_, .inl f_this_))] := hD
  refine W.widen (k := 0) (n := 0) (by omega) (by omega) ?_
  refine lv_istore_n (lv' := [(2, .int r_2), (0, .ref a_this_), (1, .ref a_s_)]) hx hb dJ5_append_cf1ce_13 rfl hl (by decide) rfl (fun ls hl => ?_)
  refine lv_aload_n hx hb dJ5_append_cf1ce_14 rfl (lv_at hl 1 rfl) ?_
  refine lv_aload_n hx hb dJ5_append_cf1ce_15 rfl (lv_at hl 1 rfl) ?_
  refine va_get (D := (dC, dI)) (ci := 1) (v := .int k_this_) (C := RJ4) (T := TJ4) (N := 4) hx hb hts hiJ4 hown hK hP 0 rfl rfl 3 (by decide) hf79 (fun _ h9 => h9) rfl dJ5_append_cf1ce_16 ?_
  refine lv_iload_n hx hb dJ5_append_cf1ce_19 rfl (lv_at hl 0 rfl) ?_
  refine lv_iadd hx hb dJ5_append_cf1ce_20 ?_
  refine lv_topi (fun x_3 ex_3 => ?_)
  have hw := hw x_3 ex_3
  obtain ⟨hPs, hDs⟩ := seg_call (segs := [[(a_this_, .inr (1, [.ref v_this_, .int 0, .int 0, .int k_this_]))], [(v_this_, .inl (g 2, c_this_, .inl f_this_))]]) [] [[(a_this_, .inr (1, [.ref v_this_, .int 0, .int 0, .int k_this_]))], [(v_this_, .inl (g 2, c_this_, .inl f_this_))]] 2 [0, 1] rfl rfl (by decide) hP hD
  have hPc : va_P (dC, dI) vwCl [(a_this_, .inr (1, [.ref v_this_, .int 0, .int 0, .int k_this_])), (v_this_, .inl (g 2, c_this_, .inl f_this_))] H_2 := P_r hPs
  have hDc : va_D A [(a_this_, .inr (1, [.ref v_this_, .int 0, .int 0, .int k_this_])), (v_this_, .inl (g 2, c_this_, .inl f_this_))] := D_r hDs
  have hFc : ∀ q, va_A [(a_this_, .inr (1, [.ref v_this_, .int 0, .int 0, .int k_this_])), (v_this_, .inl (g 2, c_this_, .inl f_this_))] H_2.size q → A q := A_all hDc hA hS.1
  refine va_callv (va_runU (As := [.int x_3]) (rest := []) ⟨hx, hb, hml, hown, hts⟩ (c_J5_ensureCapacityInternal_d00df l dC dI g (a_this_ := a_this_) (v_this_ := v_this_) (c_this_ := c_this_) (f_this_ := f_this_) (k_this_ := k_this_) (n_ := x_3) (hw := hw) (sz := H_2.size)) (va_cwU 1 hts (gqU aw_6_149 aw_7_217 aw_9_1 aw_6_151 aw_1_25 aw_6_152) rfl rfl rfl rfl (by decide +kernel) ⟨Nat.le_of_ble_eq_true rfl, Nat.le_of_ble_eq_true rfl⟩) ⟨PG_blind, va_recv hK hP (ci := 1) (q0 := 0) rfl rfl, PG_call hK hG hS hPc hDc hFc⟩ rfl rfl hl.1 rfl (lv_room (Nat.le_of_ble_eq_true rfl)) dJ5_append_cf1ce_21 ⟨by rw [hrc]; omega, by rw [hrs]; omega⟩) hS (fun q _ h => hFc q h) hFc (fun u_5 t_5 H_5 L_5 ht_5 hvm_5 hw_5 hB_5 hz_5 hk_5 hS => ?_)
  obtain ⟨v_6, c_7, f_8, k_9, u_5⟩ := u_5
  have hw := hw_5
  rw [ht_5] at hB_5
  obtain ⟨hP1, hD1⟩ := hB_5
  obtain ⟨hP, hD⟩ := join_r hPs hDs hk_5 hFc hP1 hD1
  obtain ⟨hP, hD⟩ := seg_join [] [[(a_this_, .inr (1, [.ref v_6, .int 0, .int 0, .int k_9]))], [(v_6, .inl (g 2, c_7, .inl f_8))]] [[(a_this_, .inr (1, [.ref v_6, .int 0, .int 0, .int k_9]))], [(v_6, .inl (g 2, c_7, .inl f_8))]] 2 [0, 1] rfl rfl (by decide) hP hD
  have hP : va_P (dC, dI) vwCl [(a_this_, .inr (1, [.ref v_6, .int 0, .int 0, .int k_9])), (v_6, .inl (g 2, c_7, .inl f_8))] H_5 := hP
  have hD : va_D A [(a_this_, .inr (1, [.ref v_6, .int 0, .int 0, .int k_9])), (v_6, .inl (g 2, c_7, .inl f_8))] := hD
  refine W.widen (k := 1) (n := 2000) (by omega) (by omega) ?_
  refine lv_aload_n hx hb dJ5_append_cf1ce_24 rfl (lv_at hl 1 rfl) ?_
  refine lv_aload_n hx hb dJ5_append_cf1ce_25 rfl (lv_at hl 1 rfl) ?_
  refine va_get (D := (dC, dI)) (ci := 1) (v := .int k_9) (C := RJ4) (T := TJ4) (N := 4) hx hb hts hiJ4 hown hK hP 0 rfl rfl 3 (by decide) hf79 (fun _ h9 => h9) rfl dJ5_append_cf1ce_26 ?_
  refine lv_aload_n hx hb dJ5_append_cf1ce_29 rfl (lv_at hl 2 rfl) ?_
  obtain ⟨hPs, hDs⟩ := seg_call (segs := [[(a_this_, .inr (1, [.ref v_6, .int 0, .int 0, .int k_9]))], [(v_6, .inl (g 2, c_7, .inl f_8))]]) [] [[(a_this_, .inr (1, [.ref v_6, .int 0, .int 0, .int k_9]))], [(v_6, .inl (g 2, c_7, .inl f_8))]] 2 [0, 1] rfl rfl (by decide) hP hD
  have hPc : va_P (dC, dI) vwCl [(a_this_, .inr (1, [.ref v_6, .int 0, .int 0, .int k_9])), (v_6, .inl (g 2, c_7, .inl f_8))] H_5 := P_r hPs
  have hDc : va_D A [(a_this_, .inr (1, [.ref v_6, .int 0, .int 0, .int k_9])), (v_6, .inl (g 2, c_7, .inl f_8))] := D_r hDs
  have hFc : ∀ q, va_A [(a_this_, .inr (1, [.ref v_6, .int 0, .int 0, .int k_9])), (v_6, .inl (g 2, c_7, .inl f_8))] H_5.size q → A q := A_all hDc hA hS.1
  refine va_callv (va_runU (As := [.int k_9, .ref a_s_]) (rest := []) ⟨hx, hb, hml, hown, hts⟩ (c_J5_putStringAt_47b60 l dC dI g (a_this_ := a_this_) (v_this_ := v_6) (c_this_ := c_7) (f_this_ := f_8) (k_this_ := k_9) (off := k_9) (a_s_ := a_s_) (s__n := s__n) (s__f := s__f) (hw := hw) (sz := H_5.size)) (va_cwU 2 hts (gqU aw_6_200 aw_7_219 aw_9_3 aw_6_202 aw_1_25 aw_6_203) rfl rfl rfl rfl (by decide +kernel) ⟨Nat.le_of_ble_eq_true rfl, Nat.le_of_ble_eq_true rfl⟩) ⟨PX_blind (GSb_go s__n s__f a_s_), va_recv hK hP (ci := 1) (q0 := 0) rfl rfl, PX_call (GSb_go s__n s__f a_s_) hK hG hS hPc hDc hFc hT⟩ rfl rfl hl.1 rfl (lv_room (Nat.le_of_ble_eq_true rfl)) dJ5_append_cf1ce_30 ⟨by rw [hrc]; omega, by rw [hrs]; omega⟩) hS (fun q _ h => hFc q h) hFc (fun u_11 t_11 H_11 L_11 ht_11 hvm_11 hw_11 hB_11 hz_11 hk_11 hS => ?_)
  obtain ⟨v_12, c_13, f_14, k_15, u_11⟩ := u_11
  have hw := hw_11
  rw [ht_11] at hB_11
  obtain ⟨hP1, hD1⟩ := hB_11
  obtain ⟨hP, hD⟩ := join_r hPs hDs hk_11 hFc hP1 hD1
  obtain ⟨hP, hD⟩ := seg_join [] [[(a_this_, .inr (1, [.ref v_12, .int 0, .int 0, .int k_15]))], [(v_12, .inl (g 2, c_13, .inl f_14))]] [[(a_this_, .inr (1, [.ref v_12, .int 0, .int 0, .int k_15]))], [(v_12, .inl (g 2, c_13, .inl f_14))]] 2 [0, 1] rfl rfl (by decide) hP hD
  have hP : va_P (dC, dI) vwCl [(a_this_, .inr (1, [.ref v_12, .int 0, .int 0, .int k_15])), (v_12, .inl (g 2, c_13, .inl f_14))] H_11 := hP
  have hD : va_D A [(a_this_, .inr (1, [.ref v_12, .int 0, .int 0, .int k_15])), (v_12, .inl (g 2, c_13, .inl f_14))] := hD
  refine W.widen (k := 1) (n := 2000) (by omega) (by omega) ?_
  refine lv_aload_n hx hb dJ5_append_cf1ce_33 rfl (lv_at hl 1 rfl) ?_
  refine lv_dup hx hb dJ5_append_cf1ce_34 rfl ?_
  refine va_get (D := (dC, dI)) (ci := 1) (v := .int k_15) (C := RJ4) (T := TJ4) (N := 4) hx hb hts hiJ4 hown hK hP 0 rfl rfl 3 (by decide) hf79 (fun _ h9 => h9) rfl dJ5_append_cf1ce_35 ?_
  refine lv_iload_n hx hb dJ5_append_cf1ce_38 rfl (lv_at hl 0 rfl) ?_
  refine lv_iadd hx hb dJ5_append_cf1ce_39 ?_
  refine lv_topi (fun x_16 ex_16 => ?_)
  have hw := hw x_16 ex_16
  refine va_put (D := (dC, dI)) (ci := 1) (v := .int x_16) (ty := .int) (C := RJ4) (T := TJ4) (N := 4) hx hb hts hiJ4 tyJ4 tyJ4_ok nmJ4 hown hK hP hD hS 0 rfl rfl 3 (by decide) hf79 (fun _ h9 => h9) rfl (by decide +kernel) rfl rfl (Nat.le_of_ble_eq_true rfl) dJ5_append_cf1ce_40 (fun H_17 L_18 hP hD hS => ?_)
  have hP : va_P (dC, dI) vwCl [(a_this_, .inr (1, [.ref v_12, .int 0, .int 0, .int x_16])), (v_12, .inl (g 2, c_13, .inl f_14))] H_17 := hP
  have hD : va_D A [(a_this_, .inr (1, [.ref v_12, .int 0, .int 0, .int x_16])), (v_12, .inl (g 2, c_13, .inl f_14))] := hD
  refine lv_aload_n hx hb dJ5_append_cf1ce_43 rfl (lv_at hl 1 rfl) ?_
  refine W.widen (k := 1) (n := 2000) (by omega) (by omega) ?_
  exact W.aret (v := .ref a_this_) hx hb hr (Or.inl ⟨_, rfl⟩) (Or.inr ⟨_, rfl⟩) (fun t ht hW => ⟨⟨some a_this_, (v_12, c_13, f_14, x_16, ()), rfl, ⟨rfl, hw⟩, ⟨P_at ht hP, hD⟩⟩, hS.F ht⟩) hS.2.2 dJ5_append_cf1ce_44
theorem dJ4_append_15ec4_0 : decode cJ4_append_15ec4 0 = .ok (.aload_n 0, 1) := by decide +kernel
theorem dJ4_append_15ec4_1 : decode cJ4_append_15ec4 1 = .ok (.aload_n 1, 1) := by decide +kernel
theorem dJ4_append_15ec4_2 : decode cJ4_append_15ec4 2 = .ok (.invokespecial 29, 3) := by decide +kernel
theorem dJ4_append_15ec4_5 : decode cJ4_append_15ec4 5 = .ok (.pop, 1) := by decide +kernel
theorem dJ4_append_15ec4_6 : decode cJ4_append_15ec4 6 = .ok (.aload_n 0, 1) := by decide +kernel
theorem dJ4_append_15ec4_7 : decode cJ4_append_15ec4 7 = .ok (.areturn, 1) := by decide +kernel

set_option maxHeartbeats 8000000 in
set_option maxRecDepth 100000 in
theorem c_J4_append_15ec4 (l : Launch) (dC : Nat → ClassId) (dI : Nat → Nat → Nat) (g : Nat → ClassId) (a_this_ v_this_ c_this_ : Nat) (f_this_ : Nat → Int32) (k_this_ : Int32) (a_s_ s__n : Nat) (s__f : Nat → Int32) (Q : Nat → (Nat → Int32) → Int32 → Prop) (hw : wp_J4_append_15ec4 c_this_ f_this_ k_this_ s__n s__f Q) (sz : Nat) : Met l yJ4_append_15ec4 wqJ4_append_15ec4 ({ frames := 5, cells := 1, slots := 2000, locals := 127 }) (va_Pc [.ref a_this_, .ref a_s_] (PX (GSb s__n s__f a_s_) (dC, dI) g [(a_this_, .inr (1, [.ref v_this_, .int 0, .int 0, .int k_this_])), (v_this_, .inl (g 2, c_this_, .inl f_this_))] sz)) (va_Qq (fun (r : Option Nat) (u : Nat × Nat × (Nat → Int32) × Int32 × Unit) => r = some a_this_ ∧ (Q u.2.1 u.2.2.1 u.2.2.2.1)) (fun (u : Nat × Nat × (Nat → Int32) × Int32 × Unit) t9 => va_P (dC, dI) vwCl [(a_this_, .inr (1, [.ref u.1, .int 0, .int 0, .int u.2.2.2.1])), (u.1, .inl (g 2, u.2.1, .inl u.2.2.1))] t9.heap ∧ va_D (va_A [(a_this_, .inr (1, [.ref v_this_, .int 0, .int 0, .int k_this_])), (v_this_, .inl (g 2, c_this_, .inl f_this_))] sz) [(a_this_, .inr (1, [.ref u.1, .int 0, .int 0, .int u.2.2.2.1])), (u.1, .inl (g 2, u.2.1, .inl u.2.2.1))]) (va_A [(a_this_, .inr (1, [.ref v_this_, .int 0, .int 0, .int k_this_])), (v_this_, .inl (g 2, c_this_, .inl f_this_))] sz)) 1 2000 (va_A [(a_this_, .inr (1, [.ref v_this_, .int 0, .int 0, .int k_this_])), (v_this_, .inl (g 2, c_this_, .inl f_this_))] sz) := by
  refine Met.ofW (cc := cJ4_append_15ec4) (maxL := 2) (ret := (some (.object "java/lang/StringBuilder"))) (by decide) rfl ?_
  intro p e s m args below meth c s₁ B hml hv
  obtain ⟨rfl, ⟨hsz, hP, hK, hD0, hG⟩, hT⟩ := hv
  have hx := B.exec
  have hb := B.bytes
  have hr := B.returns
  have hts := atoms_spec (ws := wqJ4_append_15ec4) B.pre
  have hown : s.vm.findClass RJ4 = some m.cls := findClass_of_methodNamed B.named
  have hlocks := B.notSynchronized
  subst hsz
  have hD := hD0.self (sz := s.heap.size)
  generalize hAe : va_A [(a_this_, .inr (1, [.ref v_this_, .int 0, .int 0, .int k_this_])), (v_this_, .inl (g 2, c_this_, .inl f_this_))] s.heap.size = A at hD hG hT ⊢
  have hA : ∀ q : Nat, s.heap.size ≤ q → A q := fun q h => by rw [← hAe]; exact Or.inr h
  have hS : va_S A s.heap s.heap [] := va_S.rf
  have hrc : (headSpec wqJ4_append_15ec4 ({ frames := 5, cells := 1, slots := 2000, locals := 127 })).room.cells = 1 := rfl
  have hrs : (headSpec wqJ4_append_15ec4 ({ frames := 5, cells := 1, slots := 2000, locals := 127 })).room.slots = 2000 := rfl
  have hl := lv_entry ([.ref a_this_, .ref a_s_]) (n := 2) (Nat.le_of_ble_eq_true rfl)
  rw [lg_entry_eq]
  generalize (lg_sl ([.ref a_this_, .ref a_s_]) ++ List.replicate (2 - (lg_sl ([.ref a_this_, .ref a_s_])).length) Slot.unset).toArray = ls at hl ⊢
  have hl : lv_has ls 2 [(0, .ref a_this_), (1, .ref a_s_)] := hl
  unfold wp_J4_append_15ec4 at hw
  refine lv_aload_n hx hb dJ4_append_15ec4_0 rfl (lv_at hl 0 rfl) ?_
  refine lv_aload_n hx hb dJ4_append_15ec4_1 rfl (lv_at hl 1 rfl) ?_
  obtain ⟨hPs, hDs⟩ := seg_call (segs := [[(a_this_, .inr (1, [.ref v_this_, .int 0, .int 0, .int k_this_]))], [(v_this_, .inl (g 2, c_this_, .inl f_this_))]]) [] [[(a_this_, .inr (1, [.ref v_this_, .int 0, .int 0, .int k_this_]))], [(v_this_, .inl (g 2, c_this_, .inl f_this_))]] 2 [0, 1] rfl rfl (by decide) hP hD
  have hPc : va_P (dC, dI) vwCl [(a_this_, .inr (1, [.ref v_this_, .int 0, .int 0, .int k_this_])), (v_this_, .inl (g 2, c_this_, .inl f_this_))] s.heap := P_r hPs
  have hDc : va_D A [(a_this_, .inr (1, [.ref v_this_, .int 0, .int 0, .int k_this_])), (v_this_, .inl (g 2, c_this_, .inl f_this_))] := D_r hDs
  have hFc : ∀ q, va_A [(a_this_, .inr (1, [.ref v_this_, .int 0, .int 0, .int k_this_])), (v_this_, .inl (g 2, c_this_, .inl f_this_))] s.heap.size q → A q := A_all hDc hA hS.1
  refine va_callq (va_runSU (As := [.ref a_s_]) (rest := []) (hK.1 1 _ rfl).2 ⟨hx, hb, hml, hown, hts⟩ (c_J5_append_cf1ce l dC dI g (a_this_ := a_this_) (v_this_ := v_this_) (c_this_ := c_this_) (f_this_ := f_this_) (k_this_ := k_this_) (a_s_ := a_s_) (s__n := s__n) (s__f := s__f) (hw := hw) (sz := s.heap.size)) (va_cwSU 1 hts (gqSU aw_6_142 aw_6_134 aw_6_143 aw_6_133 aw_1_25 aw_6_144) rfl rfl rfl (by decide +kernel) ⟨Nat.le_of_ble_eq_true rfl, Nat.le_of_ble_eq_true rfl⟩) ⟨PX_blind (GSb_go s__n s__f a_s_), va_recv hK hP (ci := 1) (q0 := 0) rfl rfl, PX_call (GSb_go s__n s__f a_s_) hK hG hS hPc hDc hFc hT⟩ rfl rfl hl.1 rfl (lv_room (Nat.le_of_ble_eq_true rfl)) dJ4_append_15ec4_2 ⟨by rw [hrc]; omega, by rw [hrs]; omega⟩) hS (fun q _ h => hFc q h) hFc (fun r_2 u_2 t_2 H_2 L_2 ht_2 hvm_2 hw_2 hB_2 hz_2 hk_2 hS => ?_)
  obtain ⟨v_3, c_4, f_5, k_6, u_2⟩ := u_2
  obtain ⟨rfl, hw⟩ := hw_2
  rw [ht_2] at hB_2
  obtain ⟨hP1, hD1⟩ := hB_2
  obtain ⟨hP, hD⟩ := join_r hPs hDs hk_2 hFc hP1 hD1
  obtain ⟨hP, hD⟩ := seg_join [] [[(a_this_, .inr (1, [.ref v_3, .int 0, .int 0, .int k_6]))], [(v_3, .inl (g 2, c_4, .inl f_5))]] [[(a_this_, .inr (1, [.ref v_3, .int 0, .int 0, .int k_6]))], [(v_3, .inl (g 2, c_4, .inl f_5))]] 2 [0, 1] rfl rfl (by decide) hP hD
  have hP : va_P (dC, dI) vwCl [(a_this_, .inr (1, [.ref v_3, .int 0, .int 0, .int k_6])), (v_3, .inl (g 2, c_4, .inl f_5))] H_2 := hP
  have hD : va_D A [(a_this_, .inr (1, [.ref v_3, .int 0, .int 0, .int k_6])), (v_3, .inl (g 2, c_4, .inl f_5))] := hD
  refine W.widen (k := 1) (n := 2000) (by omega) (by omega) ?_
  refine lv_pop hx hb dJ4_append_15ec4_5 rfl ?_
  refine lv_aload_n hx hb dJ4_append_15ec4_6 rfl (lv_at hl 0 rfl) ?_
  refine W.widen (k := 1) (n := 2000) (by omega) (by omega) ?_
  exact W.aret (v := .ref a_this_) hx hb hr (Or.inl ⟨_, rfl⟩) (Or.inr ⟨_, rfl⟩) (fun t ht hW => ⟨⟨some a_this_, (v_3, c_4, f_5, k_6, ()), rfl, ⟨rfl, hw⟩, ⟨P_at ht hP, hD⟩⟩, hS.F ht⟩) hS.2.2 dJ4_append_15ec4_7
theorem dJ4_append_cf1ce_0 : decode cJ4_append_cf1ce 0 = .ok (.aload_n 0, 1) := by decide +kernel
theorem dJ4_append_cf1ce_1 : decode cJ4_append_cf1ce 1 = .ok (.aload_n 1, 1) := by decide +kernel
theorem dJ4_append_cf1ce_2 : decode cJ4_append_cf1ce 2 = .ok (.invokevirtual 23, 3) := by decide +kernel
theorem dJ4_append_cf1ce_5 : decode cJ4_append_cf1ce 5 = .ok (.areturn, 1) := by decide +kernel

set_option maxHeartbeats 8000000 in
set_option maxRecDepth 100000 in
theorem c_J4_append_cf1ce (l : Launch) (dC : Nat → ClassId) (dI : Nat → Nat → Nat) (g : Nat → ClassId) (a_this_ v_this_ c_this_ : Nat) (f_this_ : Nat → Int32) (k_this_ : Int32) (a_s_ s__n : Nat) (s__f : Nat → Int32) (Q : Nat → (Nat → Int32) → Int32 → Prop) (hw : wp_J4_append_cf1ce c_this_ f_this_ k_this_ s__n s__f Q) (sz : Nat) : Met l yJ4_append_cf1ce wqJ4_append_cf1ce ({ frames := 6, cells := 1, slots := 2000, locals := 148 }) (va_Pc [.ref a_this_, .ref a_s_] (PX (GSb s__n s__f a_s_) (dC, dI) g [(a_this_, .inr (1, [.ref v_this_, .int 0, .int 0, .int k_this_])), (v_this_, .inl (g 2, c_this_, .inl f_this_))] sz)) (va_Qq (fun (r : Option Nat) (u : Nat × Nat × (Nat → Int32) × Int32 × Unit) => r = some a_this_ ∧ (Q u.2.1 u.2.2.1 u.2.2.2.1)) (fun (u : Nat × Nat × (Nat → Int32) × Int32 × Unit) t9 => va_P (dC, dI) vwCl [(a_this_, .inr (1, [.ref u.1, .int 0, .int 0, .int u.2.2.2.1])), (u.1, .inl (g 2, u.2.1, .inl u.2.2.1))] t9.heap ∧ va_D (va_A [(a_this_, .inr (1, [.ref v_this_, .int 0, .int 0, .int k_this_])), (v_this_, .inl (g 2, c_this_, .inl f_this_))] sz) [(a_this_, .inr (1, [.ref u.1, .int 0, .int 0, .int u.2.2.2.1])), (u.1, .inl (g 2, u.2.1, .inl u.2.2.1))]) (va_A [(a_this_, .inr (1, [.ref v_this_, .int 0, .int 0, .int k_this_])), (v_this_, .inl (g 2, c_this_, .inl f_this_))] sz)) 1 2000 (va_A [(a_this_, .inr (1, [.ref v_this_, .int 0, .int 0, .int k_this_])), (v_this_, .inl (g 2, c_this_, .inl f_this_))] sz) := by
  refine Met.ofW (cc := cJ4_append_cf1ce) (maxL := 2) (ret := (some (.object "java/lang/AbstractStringBuilder"))) (by decide) rfl ?_
  intro p e s m args below meth c s₁ B hml hv
  obtain ⟨rfl, ⟨hsz, hP, hK, hD0, hG⟩, hT⟩ := hv
  have hx := B.exec
  have hb := B.bytes
  have hr := B.returns
  have hts := atoms_spec (ws := wqJ4_append_cf1ce) B.pre
  have hown : s.vm.findClass RJ4 = some m.cls := findClass_of_methodNamed B.named
  have hlocks := B.notSynchronized
  subst hsz
  have hD := hD0.self (sz := s.heap.size)
  generalize hAe : va_A [(a_this_, .inr (1, [.ref v_this_, .int 0, .int 0, .int k_this_])), (v_this_, .inl (g 2, c_this_, .inl f_this_))] s.heap.size = A at hD hG hT ⊢
  have hA : ∀ q : Nat, s.heap.size ≤ q → A q := fun q h => by rw [← hAe]; exact Or.inr h
  have hS : va_S A s.heap s.heap [] := va_S.rf
  have hrc : (headSpec wqJ4_append_cf1ce ({ frames := 6, cells := 1, slots := 2000, locals := 148 })).room.cells = 1 := rfl
  have hrs : (headSpec wqJ4_append_cf1ce ({ frames := 6, cells := 1, slots := 2000, locals := 148 })).room.slots = 2000 := rfl
  have hl := lv_entry ([.ref a_this_, .ref a_s_]) (n := 2) (Nat.le_of_ble_eq_true rfl)
  rw [lg_entry_eq]
  generalize (lg_sl ([.ref a_this_, .ref a_s_]) ++ List.replicate (2 - (lg_sl ([.ref a_this_, .ref a_s_])).length) Slot.unset).toArray = ls at hl ⊢
  have hl : lv_has ls 2 [(0, .ref a_this_), (1, .ref a_s_)] := hl
  unfold wp_J4_append_cf1ce at hw
  refine lv_aload_n hx hb dJ4_append_cf1ce_0 rfl (lv_at hl 0 rfl) ?_
  refine lv_aload_n hx hb dJ4_append_cf1ce_1 rfl (lv_at hl 1 rfl) ?_
  obtain ⟨hPs, hDs⟩ := seg_call (segs := [[(a_this_, .inr (1, [.ref v_this_, .int 0, .int 0, .int k_this_]))], [(v_this_, .inl (g 2, c_this_, .inl f_this_))]]) [] [[(a_this_, .inr (1, [.ref v_this_, .int 0, .int 0, .int k_this_]))], [(v_this_, .inl (g 2, c_this_, .inl f_this_))]] 2 [0, 1] rfl rfl (by decide) hP hD
  have hPc : va_P (dC, dI) vwCl [(a_this_, .inr (1, [.ref v_this_, .int 0, .int 0, .int k_this_])), (v_this_, .inl (g 2, c_this_, .inl f_this_))] s.heap := P_r hPs
  have hDc : va_D A [(a_this_, .inr (1, [.ref v_this_, .int 0, .int 0, .int k_this_])), (v_this_, .inl (g 2, c_this_, .inl f_this_))] := D_r hDs
  have hFc : ∀ q, va_A [(a_this_, .inr (1, [.ref v_this_, .int 0, .int 0, .int k_this_])), (v_this_, .inl (g 2, c_this_, .inl f_this_))] s.heap.size q → A q := A_all hDc hA hS.1
  refine va_callq (va_runV (As := [.ref a_s_]) (rest := []) ⟨hx, hb, hml, hown, hts⟩ (c_J4_append_15ec4 l dC dI g (a_this_ := a_this_) (v_this_ := v_this_) (c_this_ := c_this_) (f_this_ := f_this_) (k_this_ := k_this_) (a_s_ := a_s_) (s__n := s__n) (s__f := s__f) (hw := hw) (sz := s.heap.size)) (cwV 1 hts (gqV aw_6_138 aw_6_139 aw_6_140 aw_1_26 aw_6_141) rfl rfl rfl (by decide +kernel) ⟨Nat.le_of_ble_eq_true rfl, Nat.le_of_ble_eq_true rfl⟩) ⟨PX_blind (GSb_go s__n s__f a_s_), va_recv hK hP (ci := 1) (q0 := 0) rfl rfl, PX_call (GSb_go s__n s__f a_s_) hK hG hS hPc hDc hFc hT⟩ rfl rfl hl.1 rfl (lv_room (Nat.le_of_ble_eq_true rfl)) dJ4_append_cf1ce_2 ⟨by rw [hrc]; omega, by rw [hrs]; omega⟩) hS (fun q _ h => hFc q h) hFc (fun r_2 u_2 t_2 H_2 L_2 ht_2 hvm_2 hw_2 hB_2 hz_2 hk_2 hS => ?_)
  obtain ⟨v_3, c_4, f_5, k_6, u_2⟩ := u_2
  obtain ⟨rfl, hw⟩ := hw_2
  rw [ht_2] at hB_2
  obtain ⟨hP1, hD1⟩ := hB_2
  obtain ⟨hP, hD⟩ := join_r hPs hDs hk_2 hFc hP1 hD1
  obtain ⟨hP, hD⟩ := seg_join [] [[(a_this_, .inr (1, [.ref v_3, .int 0, .int 0, .int k_6]))], [(v_3, .inl (g 2, c_4, .inl f_5))]] [[(a_this_, .inr (1, [.ref v_3, .int 0, .int 0, .int k_6]))], [(v_3, .inl (g 2, c_4, .inl f_5))]] 2 [0, 1] rfl rfl (by decide) hP hD
  have hP : va_P (dC, dI) vwCl [(a_this_, .inr (1, [.ref v_3, .int 0, .int 0, .int k_6])), (v_3, .inl (g 2, c_4, .inl f_5))] H_2 := hP
  have hD : va_D A [(a_this_, .inr (1, [.ref v_3, .int 0, .int 0, .int k_6])), (v_3, .inl (g 2, c_4, .inl f_5))] := hD
  refine W.widen (k := 1) (n := 2000) (by omega) (by omega) ?_
  refine W.widen (k := 1) (n := 2000) (by omega) (by omega) ?_
  exact W.aret (v := .ref a_this_) hx hb hr (Or.inl ⟨_, rfl⟩) (Or.inr ⟨_, rfl⟩) (fun t ht hW => ⟨⟨some a_this_, (v_3, c_4, f_5, k_6, ()), rfl, ⟨rfl, hw⟩, ⟨P_at ht hP, hD⟩⟩, hS.F ht⟩) hS.2.2 dJ4_append_cf1ce_5
theorem dJ5_init_d00df_0 : decode cJ5_init_d00df 0 = .ok (.aload_n 0, 1) := by decide +kernel
theorem dJ5_init_d00df_1 : decode cJ5_init_d00df 1 = .ok (.invokespecial 3, 3) := by decide +kernel
theorem dJ5_init_d00df_4 : decode cJ5_init_d00df 4 = .ok (.getstatic 18, 3) := by decide +kernel
theorem dJ5_init_d00df_7 : decode cJ5_init_d00df 7 = .ok (.ifCond .eq 18, 3) := by decide +kernel
theorem dJ5_init_d00df_10 : decode cJ5_init_d00df 10 = .ok (.aload_n 0, 1) := by decide +kernel
theorem dJ5_init_d00df_11 : decode cJ5_init_d00df 11 = .ok (.iload_n 1, 1) := by decide +kernel
theorem dJ5_init_d00df_12 : decode cJ5_init_d00df 12 = .ok (.newarray .byte, 2) := by decide +kernel
theorem dJ5_init_d00df_14 : decode cJ5_init_d00df 14 = .ok (.putfield 15, 3) := by decide +kernel
theorem dJ5_init_d00df_17 : decode cJ5_init_d00df 17 = .ok (.aload_n 0, 1) := by decide +kernel
theorem dJ5_init_d00df_18 : decode cJ5_init_d00df 18 = .ok (.iconst 0, 1) := by decide +kernel
theorem dJ5_init_d00df_19 : decode cJ5_init_d00df 19 = .ok (.putfield 22, 3) := by decide +kernel
theorem dJ5_init_d00df_22 : decode cJ5_init_d00df 22 = .ok (.goto 16, 3) := by decide +kernel
theorem dJ5_init_d00df_38 : decode cJ5_init_d00df 38 = .ok (.return_, 1) := by decide +kernel

set_option maxHeartbeats 8000000 in
set_option maxRecDepth 100000 in
theorem c_J5_init_d00df (l : Launch) (dC : Nat → ClassId) (dI : Nat → Nat → Nat) (g : Nat → ClassId) (a_this_ : Nat) (n_ : Int32) (Q : Nat → (Nat → Int32) → Int32 → Prop) (hw : wp_J5_init_d00df n_ Q) (sz : Nat) : Met l yJ5_init_d00df wqJ5_init_d00df ({ frames := 1, cells := 1, slots := 2000, locals := 12 }) (va_Pc [.ref a_this_, .int n_] (PG (dC, dI) g [(a_this_, .inr (1, [.null, .int 0, .int 0, .int 0]))] sz)) (va_Qv (fun (u : Nat × Nat × (Nat → Int32) × Int32 × Unit) => Q u.2.1 u.2.2.1 u.2.2.2.1) (fun (u : Nat × Nat × (Nat → Int32) × Int32 × Unit) t9 => va_P (dC, dI) vwCl [(a_this_, .inr (1, [.ref u.1, .int 0, .int 0, .int u.2.2.2.1])), (u.1, .inl (g 2, u.2.1, .inl u.2.2.1))] t9.heap ∧ va_D (va_A [(a_this_, .inr (1, [.null, .int 0, .int 0, .int 0]))] sz) [(a_this_, .inr (1, [.ref u.1, .int 0, .int 0, .int u.2.2.2.1])), (u.1, .inl (g 2, u.2.1, .inl u.2.2.1))]) (va_A [(a_this_, .inr (1, [.null, .int 0, .int 0, .int 0]))] sz)) 1 2000 (va_A [(a_this_, .inr (1, [.null, .int 0, .int 0, .int 0]))] sz) := by
  refine Met.ofW (cc := cJ5_init_d00df) (maxL := 2) (ret := none) (by decide) rfl ?_
  intro p e s m args below meth c s₁ B hml hv
  obtain ⟨rfl, hsz, hP, hK, hD0, hG⟩ := hv
  have hx := B.exec
  have hb := B.bytes
  have hr := B.returns
  have hts := atoms_spec (ws := wqJ5_init_d00df) B.pre
  have hown : s.vm.findClass RJ5 = some m.cls := findClass_of_methodNamed B.named
  have hlocks := B.notSynchronized
  subst hsz
  have hD := hD0.self (sz := s.heap.size)
  generalize hAe : va_A [(a_this_, .inr (1, [.null, .int 0, .int 0, .int 0]))] s.heap.size = A at hD hG ⊢
  have hA : ∀ q : Nat, s.heap.size ≤ q → A q := fun q h => by rw [← hAe]; exact Or.inr h
  have hS : va_S A s.heap s.heap [] := va_S.rf
  have hrc : (headSpec wqJ5_init_d00df ({ frames := 1, cells := 1, slots := 2000, locals := 12 })).room.cells = 1 := rfl
  have hrs : (headSpec wqJ5_init_d00df ({ frames := 1, cells := 1, slots := 2000, locals := 12 })).room.slots = 2000 := rfl
  have hl := lv_entry ([.ref a_this_, .int n_]) (n := 2) (Nat.le_of_ble_eq_true rfl)
  rw [lg_entry_eq]
  generalize (lg_sl ([.ref a_this_, .int n_]) ++ List.replicate (2 - (lg_sl ([.ref a_this_, .int n_])).length) Slot.unset).toArray = ls at hl ⊢
  have hl : lv_has ls 2 [(0, .ref a_this_), (1, .int n_)] := hl
  unfold wp_J5_init_d00df at hw
  have hml3 := hts (Cond.methodLink RJ5 3 objectInit) (aw_l aw_6_120)
  have hoi := hts (Cond.instanceMethod objectInit) (aw_l aw_1_38)
  have hoc := hts (Cond.code objectInit ⟨#[0xb1]⟩ 1 none) (aw_l aw_1_39)
  have hf18 := hts (Cond.fieldLink RJ5 18 "java/lang/String" "COMPACT_STRINGS" "Z") (aw_l aw_6_184)
  have hnabyte := hts (Cond.arrayClass .byte) (aw_l aw_3_61)
  have hf15 := hts (Cond.fieldLink RJ5 15 "java/lang/AbstractStringBuilder" "value" "[B") (aw_l aw_6_233)
  have hiJ4 : ∀ w ∈ u_ws RJ4 TJ4 4, w ∈ wqJ5_init_d00df := fun w h => aw_l (aw_wsJ40 w h)
  have hf22 := hts (Cond.fieldLink RJ5 22 "java/lang/AbstractStringBuilder" "coder" "B") (aw_l aw_6_234)
  refine lv_aload_n hx hb dJ5_init_d00df_0 rfl (lv_at hl 0 rfl) ?_
  refine W.objInit hx hb hown hml3 hoi hoc rfl (by rw [hml]; exact hl.1) rfl dJ5_init_d00df_1 (Nat.le_of_ble_eq_true rfl) (Nat.le_of_ble_eq_true rfl) ?_
  refine W.eq (g2 := F0 m 4 ls []) rfl ?_
  refine va_gets hx hb (cs_z hG) hS hown hf18 (fun _ h9 => h9) dJ5_init_d00df_4 ?_
  refine lv_if_eq (tgt := 25) hx hb dJ5_init_d00df_7 (by decide) (fun c_2 => absurd c_2 (by decide)) (fun _ => ?_)
  refine lv_aload_n hx hb dJ5_init_d00df_10 rfl (lv_at hl 0 rfl) ?_
  refine lv_iload_n hx hb dJ5_init_d00df_11 rfl (lv_at hl 1 rfl) ?_
  obtain ⟨n_6, en_6, ln_6, hw⟩ := hw
  refine va_newa (atype := .byte) (a0 := (n_6, .inl (fun _ => 0))) hx hb hnabyte rfl hK hP hD hS hA (fun _ => rfl) (by rw [en_6]; exact nI_pos (by omega)) (N' := n_6) (by rw [en_6]; exact nI_clamp (by omega)) (show n_6 * 1 ≤ 536870912 by omega) (by rw [hrc]; omega) (by rw [hrs]; omega) dJ5_init_d00df_12 (fun a_q_3 cA_5 H_4 hK9 hP hD hS => ?_)
  obtain rfl : g 2 = cA_5 := K_one hK9 2 5 rfl rfl
  obtain ⟨hP, hD⟩ := seg_join [[(a_this_, .inr (1, [.null, .int 0, .int 0, .int 0]))]] [[(a_q_3, .inl (g 2, n_6, .inl (fun _ => 0)))]] [[(a_this_, .inr (1, [.null, .int 0, .int 0, .int 0]))], [(a_q_3, .inl (g 2, n_6, .inl (fun _ => 0)))]] 2 [0, 1] rfl rfl (by decide) hP hD
  have hP : va_P (dC, dI) vwCl [(a_this_, .inr (1, [.null, .int 0, .int 0, .int 0])), (a_q_3, .inl (g 2, n_6, .inl (fun _ => 0)))] H_4 := hP
  have hD : va_D A [(a_this_, .inr (1, [.null, .int 0, .int 0, .int 0])), (a_q_3, .inl (g 2, n_6, .inl (fun _ => 0)))] := hD
  refine W.widen (k := 1) (n := 2000) (by omega) (by omega) ?_
  refine va_put (D := (dC, dI)) (ci := 1) (v := .ref a_q_3) (ty := .array .byte) (C := RJ4) (T := TJ4) (N := 4) hx hb hts hiJ4 tyJ4 tyJ4_ok nmJ4 hown hK hP hD hS 0 rfl rfl 0 (by decide) hf15 (fun _ h9 => h9) rfl (by decide +kernel) rfl rfl (Nat.le_of_ble_eq_true rfl) dJ5_init_d00df_14 (fun H_7 L_8 hP hD hS => ?_)
  have hP : va_P (dC, dI) vwCl [(a_this_, .inr (1, [.ref a_q_3, .int 0, .int 0, .int 0])), (a_q_3, .inl (g 2, n_6, .inl (fun _ => 0)))] H_7 := hP
  have hD : va_D A [(a_this_, .inr (1, [.ref a_q_3, .int 0, .int 0, .int 0])), (a_q_3, .inl (g 2, n_6, .inl (fun _ => 0)))] := hD
  refine lv_aload_n hx hb dJ5_init_d00df_17 rfl (lv_at hl 0 rfl) ?_
  refine lv_iconst (v := 0) hx hb dJ5_init_d00df_18 (by decide) ?_
  refine va_put (D := (dC, dI)) (ci := 1) (v := .int 0) (ty := .byte) (C := RJ4) (T := TJ4) (N := 4) hx hb hts hiJ4 tyJ4 tyJ4_ok nmJ4 hown hK hP hD hS 0 rfl rfl 1 (by decide) hf22 (fun _ h9 => h9) rfl (by decide +kernel) rfl rfl (Nat.le_of_ble_eq_true rfl) dJ5_init_d00df_19 (fun H_9 L_10 hP hD hS => ?_)
  have hP : va_P (dC, dI) vwCl [(a_this_, .inr (1, [.ref a_q_3, .int 0, .int 0, .int 0])), (a_q_3, .inl (g 2, n_6, .inl (fun _ => 0)))] H_9 := hP
  have hD : va_D A [(a_this_, .inr (1, [.ref a_q_3, .int 0, .int 0, .int 0])), (a_q_3, .inl (g 2, n_6, .inl (fun _ => 0)))] := hD
  refine lv_goto (tgt := 38) hx hb dJ5_init_d00df_22 (by decide) ?_
  refine W.widen (k := 1) (n := 2000) (by omega) (by omega) ?_
  exact W.vret hx hb hr (fun t ht hW => ⟨⟨(a_q_3, n_6, (fun _ => 0), 0, ()), rfl, hw, ⟨P_at ht hP, hD⟩⟩, hS.F ht⟩) hS.2.2 dJ5_init_d00df_38
theorem dJ4_init_da8c8_0 : decode cJ4_init_da8c8 0 = .ok (.aload_n 0, 1) := by decide +kernel
theorem dJ4_init_da8c8_1 : decode cJ4_init_da8c8 1 = .ok (.bipush 16, 2) := by decide +kernel
theorem dJ4_init_da8c8_3 : decode cJ4_init_da8c8 3 = .ok (.invokespecial 1, 3) := by decide +kernel
theorem dJ4_init_da8c8_6 : decode cJ4_init_da8c8 6 = .ok (.return_, 1) := by decide +kernel

set_option maxHeartbeats 8000000 in
set_option maxRecDepth 100000 in
theorem c_J4_init_da8c8 (l : Launch) (dC : Nat → ClassId) (dI : Nat → Nat → Nat) (g : Nat → ClassId) (a_this_ : Nat) (Q : Nat → (Nat → Int32) → Int32 → Prop) (hw : wp_J4_init_da8c8 Q) (sz : Nat) : Met l yJ4_init_da8c8 wqJ4_init_da8c8 ({ frames := 2, cells := 1, slots := 2000, locals := 33 }) (va_Pc [.ref a_this_] (PG (dC, dI) g [(a_this_, .inr (1, [.null, .int 0, .int 0, .int 0]))] sz)) (va_Qv (fun (u : Nat × Nat × (Nat → Int32) × Int32 × Unit) => Q u.2.1 u.2.2.1 u.2.2.2.1) (fun (u : Nat × Nat × (Nat → Int32) × Int32 × Unit) t9 => va_P (dC, dI) vwCl [(a_this_, .inr (1, [.ref u.1, .int 0, .int 0, .int u.2.2.2.1])), (u.1, .inl (g 2, u.2.1, .inl u.2.2.1))] t9.heap ∧ va_D (va_A [(a_this_, .inr (1, [.null, .int 0, .int 0, .int 0]))] sz) [(a_this_, .inr (1, [.ref u.1, .int 0, .int 0, .int u.2.2.2.1])), (u.1, .inl (g 2, u.2.1, .inl u.2.2.1))]) (va_A [(a_this_, .inr (1, [.null, .int 0, .int 0, .int 0]))] sz)) 1 2000 (va_A [(a_this_, .inr (1, [.null, .int 0, .int 0, .int 0]))] sz) := by
  refine Met.ofW (cc := cJ4_init_da8c8) (maxL := 1) (ret := none) (by decide) rfl ?_
  intro p e s m args below meth c s₁ B hml hv
  obtain ⟨rfl, hsz, hP, hK, hD0, hG⟩ := hv
  have hx := B.exec
  have hb := B.bytes
  have hr := B.returns
  have hts := atoms_spec (ws := wqJ4_init_da8c8) B.pre
  have hown : s.vm.findClass RJ4 = some m.cls := findClass_of_methodNamed B.named
  have hlocks := B.notSynchronized
  subst hsz
  have hD := hD0.self (sz := s.heap.size)
  generalize hAe : va_A [(a_this_, .inr (1, [.null, .int 0, .int 0, .int 0]))] s.heap.size = A at hD hG ⊢
  have hA : ∀ q : Nat, s.heap.size ≤ q → A q := fun q h => by rw [← hAe]; exact Or.inr h
  have hS : va_S A s.heap s.heap [] := va_S.rf
  have hrc : (headSpec wqJ4_init_da8c8 ({ frames := 2, cells := 1, slots := 2000, locals := 33 })).room.cells = 1 := rfl
  have hrs : (headSpec wqJ4_init_da8c8 ({ frames := 2, cells := 1, slots := 2000, locals := 33 })).room.slots = 2000 := rfl
  have hl := lv_entry ([.ref a_this_]) (n := 1) (Nat.le_of_ble_eq_true rfl)
  rw [lg_entry_eq]
  generalize (lg_sl ([.ref a_this_]) ++ List.replicate (1 - (lg_sl ([.ref a_this_])).length) Slot.unset).toArray = ls at hl ⊢
  have hl : lv_has ls 1 [(0, .ref a_this_)] := hl
  unfold wp_J4_init_da8c8 at hw
  have hiniJ5 := hts (Cond.initialized RJ5) (aw_l aw_1_25)
  have himJ5_init_d00df := hts (Cond.instanceMethod yJ5_init_d00df) (aw_l aw_7_58)
  have hml1 := hts (Cond.methodLink RJ4 1 yJ5_init_d00df) (aw_l aw_7_57)
  refine lv_aload_n hx hb dJ4_init_da8c8_0 rfl (lv_at hl 0 rfl) ?_
  refine lv_bipush (v := 16) hx hb dJ4_init_da8c8_1 (by decide) ?_
  obtain ⟨hPs, hDs⟩ := seg_call (segs := [[(a_this_, .inr (1, [.null, .int 0, .int 0, .int 0]))]]) [] [[(a_this_, .inr (1, [.null, .int 0, .int 0, .int 0]))]] 1 [0] rfl rfl (by decide) hP hD
  have hPc : va_P (dC, dI) vwCl [(a_this_, .inr (1, [.null, .int 0, .int 0, .int 0]))] s.heap := P_r hPs
  have hDc : va_D A [(a_this_, .inr (1, [.null, .int 0, .int 0, .int 0]))] := D_r hDs
  have hFc : ∀ q, va_A [(a_this_, .inr (1, [.null, .int 0, .int 0, .int 0]))] s.heap.size q → A q := A_all hDc hA hS.1
  refine va_callv (va_runI (As := [.int 16]) (rest := []) ⟨hx, hb, hml, hown, hts⟩ (c_J5_init_d00df l dC dI g (a_this_ := a_this_) (n_ := 16) (hw := hw) (sz := s.heap.size)) (cwI 1 hts (gq0 aw_7_59) rfl rfl rfl hiniJ5 hml1 himJ5_init_d00df rfl (by decide +kernel) ⟨Nat.le_of_ble_eq_true rfl, Nat.le_of_ble_eq_true rfl⟩) ⟨PG_blind, PG_call hK hG hS hPc hDc hFc⟩ rfl rfl hl.1 rfl (lv_room (Nat.le_of_ble_eq_true rfl)) dJ4_init_da8c8_3 ⟨by rw [hrc]; omega, by rw [hrs]; omega⟩) hS (fun q _ h => hFc q h) hFc (fun u_2 t_2 H_2 L_2 ht_2 hvm_2 hw_2 hB_2 hz_2 hk_2 hS => ?_)
  obtain ⟨v_3, c_4, f_5, k_6, u_2⟩ := u_2
  have hw := hw_2
  rw [ht_2] at hB_2
  obtain ⟨hP1, hD1⟩ := hB_2
  obtain ⟨hP, hD⟩ := join_r hPs hDs hk_2 hFc hP1 hD1
  obtain ⟨hP, hD⟩ := seg_join [] [[(a_this_, .inr (1, [.ref v_3, .int 0, .int 0, .int k_6]))], [(v_3, .inl (g 2, c_4, .inl f_5))]] [[(a_this_, .inr (1, [.ref v_3, .int 0, .int 0, .int k_6]))], [(v_3, .inl (g 2, c_4, .inl f_5))]] 2 [0, 1] rfl rfl (by decide) hP hD
  have hP : va_P (dC, dI) vwCl [(a_this_, .inr (1, [.ref v_3, .int 0, .int 0, .int k_6])), (v_3, .inl (g 2, c_4, .inl f_5))] H_2 := hP
  have hD : va_D A [(a_this_, .inr (1, [.ref v_3, .int 0, .int 0, .int k_6])), (v_3, .inl (g 2, c_4, .inl f_5))] := hD
  refine W.widen (k := 1) (n := 2000) (by omega) (by omega) ?_
  refine W.widen (k := 1) (n := 2000) (by omega) (by omega) ?_
  exact W.vret hx hb hr (fun t ht hW => ⟨⟨(v_3, c_4, f_5, k_6, ()), rfl, hw, ⟨P_at ht hP, hD⟩⟩, hS.F ht⟩) hS.2.2 dJ4_init_da8c8_6
theorem dJ5_init_a7421_0 : decode cJ5_init_a7421 0 = .ok (.aload_n 0, 1) := by decide +kernel
theorem dJ5_init_a7421_1 : decode cJ5_init_a7421 1 = .ok (.invokespecial 3, 3) := by decide +kernel
theorem dJ5_init_a7421_4 : decode cJ5_init_a7421 4 = .ok (.aload_n 1, 1) := by decide +kernel
theorem dJ5_init_a7421_5 : decode cJ5_init_a7421 5 = .ok (.invokevirtual 32, 3) := by decide +kernel
theorem dJ5_init_a7421_8 : decode cJ5_init_a7421 8 = .ok (.istore_n 2, 1) := by decide +kernel
theorem dJ5_init_a7421_9 : decode cJ5_init_a7421 9 = .ok (.iload_n 2, 1) := by decide +kernel
theorem dJ5_init_a7421_10 : decode cJ5_init_a7421 10 = .ok (.ldc 38, 2) := by decide +kernel
theorem dJ5_init_a7421_24 : decode cJ5_init_a7421 24 = .ok (.istore_n 3, 1) := by decide +kernel
theorem dJ5_init_a7421_25 : decode cJ5_init_a7421 25 = .ok (.aload_n 1, 1) := by decide +kernel
theorem dJ5_init_a7421_26 : decode cJ5_init_a7421 26 = .ok (.invokevirtual 40, 3) := by decide +kernel
theorem dJ5_init_a7421_29 : decode cJ5_init_a7421 29 = .ok (.istore 4, 2) := by decide +kernel
theorem dJ5_init_a7421_31 : decode cJ5_init_a7421 31 = .ok (.aload_n 0, 1) := by decide +kernel
theorem dJ5_init_a7421_32 : decode cJ5_init_a7421 32 = .ok (.iload 4, 2) := by decide +kernel
theorem dJ5_init_a7421_34 : decode cJ5_init_a7421 34 = .ok (.putfield 22, 3) := by decide +kernel
theorem dJ5_init_a7421_37 : decode cJ5_init_a7421 37 = .ok (.aload_n 0, 1) := by decide +kernel
theorem dJ5_init_a7421_38 : decode cJ5_init_a7421 38 = .ok (.iload 4, 2) := by decide +kernel
theorem dJ5_init_a7421_40 : decode cJ5_init_a7421 40 = .ok (.ifCond .ne 9, 3) := by decide +kernel
theorem dJ5_init_a7421_43 : decode cJ5_init_a7421 43 = .ok (.iload_n 3, 1) := by decide +kernel
theorem dJ5_init_a7421_44 : decode cJ5_init_a7421 44 = .ok (.newarray .byte, 2) := by decide +kernel
theorem dJ5_init_a7421_46 : decode cJ5_init_a7421 46 = .ok (.goto 7, 3) := by decide +kernel
theorem dJ5_init_a7421_53 : decode cJ5_init_a7421 53 = .ok (.putfield 15, 3) := by decide +kernel
theorem dJ5_init_a7421_56 : decode cJ5_init_a7421 56 = .ok (.aload_n 0, 1) := by decide +kernel
theorem dJ5_init_a7421_57 : decode cJ5_init_a7421 57 = .ok (.aload_n 1, 1) := by decide +kernel
theorem dJ5_init_a7421_58 : decode cJ5_init_a7421 58 = .ok (.invokevirtual 43, 3) := by decide +kernel
theorem dJ5_init_a7421_61 : decode cJ5_init_a7421 61 = .ok (.pop, 1) := by decide +kernel
theorem dJ5_init_a7421_62 : decode cJ5_init_a7421 62 = .ok (.return_, 1) := by decide +kernel
theorem dJ5_init_a7421_12 : decode cJ5_init_a7421 12 = .ok (.if_icmp .ge 10, 3) := by decide +kernel
theorem dJ5_init_a7421_15 : decode cJ5_init_a7421 15 = .ok (.iload_n 2, 1) := by decide +kernel
theorem dJ5_init_a7421_16 : decode cJ5_init_a7421 16 = .ok (.bipush 16, 2) := by decide +kernel
theorem dJ5_init_a7421_18 : decode cJ5_init_a7421 18 = .ok (.iadd, 1) := by decide +kernel
theorem dJ5_init_a7421_19 : decode cJ5_init_a7421 19 = .ok (.goto 5, 3) := by decide +kernel

set_option maxHeartbeats 8000000 in
set_option maxRecDepth 100000 in
theorem c_J5_init_a7421 (l : Launch) (dC : Nat → ClassId) (dI : Nat → Nat → Nat) (g : Nat → ClassId) (a_this_ : Nat) (a_s_ s__n : Nat) (s__f : Nat → Int32) (Q : Nat → (Nat → Int32) → Int32 → Prop) (hw : wp_J5_init_a7421 s__n s__f Q) (sz : Nat) : Met l yJ5_init_a7421 wqJ5_init_a7421 ({ frames := 7, cells := 2, slots := 4000, locals := 169 }) (va_Pc [.ref a_this_, .ref a_s_] (PX (GSb s__n s__f a_s_) (dC, dI) g [(a_this_, .inr (1, [.null, .int 0, .int 0, .int 0]))] sz)) (va_Qv (fun (u : Nat × Nat × (Nat → Int32) × Int32 × Unit) => Q u.2.1 u.2.2.1 u.2.2.2.1) (fun (u : Nat × Nat × (Nat → Int32) × Int32 × Unit) t9 => va_P (dC, dI) vwCl [(a_this_, .inr (1, [.ref u.1, .int 0, .int 0, .int u.2.2.2.1])), (u.1, .inl (g 2, u.2.1, .inl u.2.2.1))] t9.heap ∧ va_D (va_A [(a_this_, .inr (1, [.null, .int 0, .int 0, .int 0]))] sz) [(a_this_, .inr (1, [.ref u.1, .int 0, .int 0, .int u.2.2.2.1])), (u.1, .inl (g 2, u.2.1, .inl u.2.2.1))]) (va_A [(a_this_, .inr (1, [.null, .int 0, .int 0, .int 0]))] sz)) 2 4000 (va_A [(a_this_, .inr (1, [.null, .int 0, .int 0, .int 0]))] sz) := by
  refine Met.ofW (cc := cJ5_init_a7421) (maxL := 5) (ret := none) (by decide) rfl ?_
  intro p e s m args below meth c s₁ B hml hv
  obtain ⟨rfl, ⟨hsz, hP, hK, hD0, hG⟩, hT⟩ := hv
  have hx := B.exec
  have hb := B.bytes
  have hr := B.returns
  have hts := atoms_spec (ws := wqJ5_init_a7421) B.pre
  have hown : s.vm.findClass RJ5 = some m.cls := findClass_of_methodNamed B.named
  have hlocks := B.notSynchronized
  subst hsz
  have hD := hD0.self (sz := s.heap.size)
  generalize hAe : va_A [(a_this_, .inr (1, [.null, .int 0, .int 0, .int 0]))] s.heap.size = A at hD hG hT ⊢
  have hA : ∀ q : Nat, s.heap.size ≤ q → A q := fun q h => by rw [← hAe]; exact Or.inr h
  have hS : va_S A s.heap s.heap [] := va_S.rf
  have hrc : (headSpec wqJ5_init_a7421 ({ frames := 7, cells := 2, slots := 4000, locals := 169 })).room.cells = 2 := rfl
  have hrs : (headSpec wqJ5_init_a7421 ({ frames := 7, cells := 2, slots := 4000, locals := 169 })).room.slots = 4000 := rfl
  have hl := lv_entry ([.ref a_this_, .ref a_s_]) (n := 5) (Nat.le_of_ble_eq_true rfl)
  rw [lg_entry_eq]
  generalize (lg_sl ([.ref a_this_, .ref a_s_]) ++ List.replicate (5 - (lg_sl ([.ref a_this_, .ref a_s_])).length) Slot.unset).toArray = ls at hl ⊢
  have hl : lv_has ls 5 [(0, .ref a_this_), (1, .ref a_s_)] := hl
  unfold wp_J5_init_a7421 at hw
  have hml3 := hts (Cond.methodLink RJ5 3 objectInit) (aw_l aw_6_120)
  have hoi := hts (Cond.instanceMethod objectInit) (aw_l aw_1_38)
  have hoc := hts (Cond.code objectInit ⟨#[0xb1]⟩ 1 none) (aw_l aw_1_39)
  have hk38 := hts (Jvm.Cond.constant RJ5 38 2147483631) (aw_l aw_6_122)
  have hf22 := hts (Cond.fieldLink RJ5 22 "java/lang/AbstractStringBuilder" "coder" "B") (aw_l aw_6_234)
  have hiJ4 : ∀ w ∈ u_ws RJ4 TJ4 4, w ∈ wqJ5_init_a7421 := fun w h => aw_l (aw_wsJ40 w h)
  have hnabyte := hts (Cond.arrayClass .byte) (aw_l aw_3_61)
  have hf15 := hts (Cond.fieldLink RJ5 15 "java/lang/AbstractStringBuilder" "value" "[B") (aw_l aw_6_233)
  refine lv_aload_n hx hb dJ5_init_a7421_0 rfl (lv_at hl 0 rfl) ?_
  refine W.objInit hx hb hown hml3 hoi hoc rfl (by rw [hml]; exact hl.1) rfl dJ5_init_a7421_1 (Nat.le_of_ble_eq_true rfl) (Nat.le_of_ble_eq_true rfl) ?_
  refine W.eq (g2 := F0 m 4 ls []) rfl ?_
  refine lv_aload_n hx hb dJ5_init_a7421_4 rfl (lv_at hl 1 rfl) ?_
  have hPs : va_P (dC, dI) vwCl (wcat [[(a_this_, .inr (1, [.null, .int 0, .int 0, .int 0]))]] ++ wcat []) s.heap := by rw [show wcat [] = [] from rfl, List.append_nil]; exact hP
  have hDs : va_D A (wcat [[(a_this_, .inr (1, [.null, .int 0, .int 0, .int 0]))]] ++ wcat []) := by rw [show wcat [] = [] from rfl, List.append_nil]; exact hD
  have hPc : va_P (dC, dI) vwCl [] s.heap := P_r hPs
  have hDc : va_D A [] := D_r hDs
  have hFc : ∀ q, va_A [] s.heap.size q → A q := A_all hDc hA hS.1
  refine va_calli (va_runV (As := []) (rest := []) ⟨hx, hb, hml, hown, hts⟩ (c_J0_length_8abf5 l dC dI g (a_this_ := a_s_) (this__n := s__n) (this__f := s__f) (hw := hw) (sz := s.heap.size)) (cwV 0 hts (gqV aw_6_121 aw_5_81 aw_5_82 aw_1_21 aw_5_83) rfl rfl rfl (by decide +kernel) ⟨Nat.le_of_ble_eq_true rfl, Nat.le_of_ble_eq_true rfl⟩) ⟨PX_blind (GSb_go s__n s__f a_s_), GSb_recv hT hS, PX_call (GSb_go s__n s__f a_s_) hK hG hS hPc hDc hFc hT⟩ rfl rfl hl.1 rfl (lv_room (Nat.le_of_ble_eq_true rfl)) dJ5_init_a7421_5 ⟨by rw [hrc]; omega, by rw [hrs]; omega⟩) hS (fun q _ h => hFc q h) hFc (fun r_3 u_3 t_3 H_3 L_3 ht_3 hvm_3 hw_3 hB_3 hz_3 hk_3 hS => ?_)
  have hw := hw_3
  rw [ht_3] at hB_3
  obtain ⟨hP1, hD1⟩ := hB_3
  obtain ⟨hP, hD⟩ := join_r hPs hDs hk_3 hFc hP1 hD1
  rw [List.append_nil] at hP hD
  have hP : va_P (dC, dI) vwCl [(a_this_, .inr (1, [.null, .int 0, .int 0, .int 0]))] H_3 := hP
  have hD : va_D A [(a_this_, .inr (1, [.null, .int 0, .int 0, .int 0]))] := hD
  refine W.widen (k := 0) (n := 0) (by omega) (by omega) ?_
  refine lv_istore_n (lv' := [(2, .int r_3), (0, .ref a_this_), (1, .ref a_s_)]) hx hb dJ5_init_a7421_8 rfl hl (by decide) rfl (fun ls hl => ?_)
  refine lv_iload_n hx hb dJ5_init_a7421_9 rfl (lv_at hl 0 rfl) ?_
  refine lv_ldc hx hb hown hk38 dJ5_init_a7421_10 ?_
  refine W_abs (fun QM hQM => ?_)
  have JN24 : ∀ (sk0_4 : Int32) (H : Heap) (locs : List Loc), (wj_J5_init_a7421_24 s__n s__f Q) sk0_4 → va_P (dC, dI) vwCl [(a_this_, .inr (1, [.null, .int 0, .int 0, .int 0]))] H → va_D A [(a_this_, .inr (1, [.null, .int 0, .int 0, .int 0]))] → va_S A s.heap H locs → ∀ (ls : Array Slot), lv_has ls 5 [(0, .ref a_this_), (1, .ref a_s_)] → W p l e (headSpec wqJ5_init_a7421 ({ frames := 7, cells := 2, slots := 4000, locals := 169 })).room s m ([.ref a_this_, .ref a_s_] : List Value).toArray below meth c H locs 0 0 QM (F0 m 24 ls [.int sk0_4]) := by
    intro sk0_4 H locs hw hP hD hS ls hl
    refine lv_istore_n (lv' := [(3, .int sk0_4), (0, .ref a_this_), (1, .ref a_s_)]) hx hb dJ5_init_a7421_24 rfl hl (by decide) rfl (fun ls hl => ?_)
    refine lv_aload_n hx hb dJ5_init_a7421_25 rfl (lv_at hl 2 rfl) ?_
    have hPs : va_P (dC, dI) vwCl (wcat [[(a_this_, .inr (1, [.null, .int 0, .int 0, .int 0]))]] ++ wcat []) H := by rw [show wcat [] = [] from rfl, List.append_nil]; exact hP
    have hDs : va_D A (wcat [[(a_this_, .inr (1, [.null, .int 0, .int 0, .int 0]))]] ++ wcat []) := by rw [show wcat [] = [] from rfl, List.append_nil]; exact hD
    have hPc : va_P (dC, dI) vwCl [] H := P_r hPs
    have hDc : va_D A [] := D_r hDs
    have hFc : ∀ q, va_A [] H.size q → A q := A_all hDc hA hS.1
    refine va_calli (va_runV (As := []) (rest := []) ⟨hx, hb, hml, hown, hts⟩ (c_J0_coder_7d493 l dC dI g (a_this_ := a_s_) (this__n := s__n) (this__f := s__f) (hw := hw) (sz := H.size)) (cwV 0 hts (gqV aw_6_124 aw_5_85 aw_5_86 aw_1_21 aw_5_87) rfl rfl rfl (by decide +kernel) ⟨Nat.le_of_ble_eq_true rfl, Nat.le_of_ble_eq_true rfl⟩) ⟨PX_blind (GSb_go s__n s__f a_s_), GSb_recv hT hS, PX_call (GSb_go s__n s__f a_s_) hK hG hS hPc hDc hFc hT⟩ rfl rfl hl.1 rfl (lv_room (Nat.le_of_ble_eq_true rfl)) dJ5_init_a7421_26 ⟨by rw [hrc]; omega, by rw [hrs]; omega⟩) hS (fun q _ h => hFc q h) hFc (fun r_6 u_6 t_6 H_6 L_6 ht_6 hvm_6 hw_6 hB_6 hz_6 hk_6 hS => ?_)
    have hw := hw_6
    obtain ⟨rfl, hw⟩ := hw
    rw [ht_6] at hB_6
    obtain ⟨hP1, hD1⟩ := hB_6
    obtain ⟨hP, hD⟩ := join_r hPs hDs hk_6 hFc hP1 hD1
    rw [List.append_nil] at hP hD
    have hP : va_P (dC, dI) vwCl [(a_this_, .inr (1, [.null, .int 0, .int 0, .int 0]))] H_6 := hP
    have hD : va_D A [(a_this_, .inr (1, [.null, .int 0, .int 0, .int 0]))] := hD
    refine W.widen (k := 0) (n := 0) (by omega) (by omega) ?_
    refine lv_istore (lv' := [(4, .int 0), (3, .int sk0_4), (0, .ref a_this_), (1, .ref a_s_)]) hx hb dJ5_init_a7421_29 hl (by decide) rfl (fun ls hl => ?_)
    refine lv_aload_n hx hb dJ5_init_a7421_31 rfl (lv_at hl 2 rfl) ?_
    refine lv_iload hx hb dJ5_init_a7421_32 (lv_at hl 0 rfl) ?_
    refine va_put (D := (dC, dI)) (ci := 1) (v := .int 0) (ty := .byte) (C := RJ4) (T := TJ4) (N := 4) hx hb hts hiJ4 tyJ4 tyJ4_ok nmJ4 hown hK hP hD hS 0 rfl rfl 1 (by decide) hf22 (fun _ h9 => h9) rfl (by decide +kernel) rfl rfl (Nat.le_of_ble_eq_true rfl) dJ5_init_a7421_34 (fun H_7 L_8 hP hD hS => ?_)
    have hP : va_P (dC, dI) vwCl [(a_this_, .inr (1, [.null, .int 0, .int 0, .int 0]))] H_7 := hP
    have hD : va_D A [(a_this_, .inr (1, [.null, .int 0, .int 0, .int 0]))] := hD
    refine lv_aload_n hx hb dJ5_init_a7421_37 rfl (lv_at hl 2 rfl) ?_
    refine lv_iload hx hb dJ5_init_a7421_38 (lv_at hl 0 rfl) ?_
    refine lv_if_ne (tgt := 49) hx hb dJ5_init_a7421_40 (by decide) (fun c_9 => absurd c_9 (by decide)) (fun _ => ?_)
    refine lv_iload_n hx hb dJ5_init_a7421_43 rfl (lv_at hl 1 rfl) ?_
    obtain ⟨n_13, en_13, ln_13, hw⟩ := hw
    refine va_newa (atype := .byte) (a0 := (n_13, .inl (fun _ => 0))) hx hb hnabyte rfl hK hP hD hS hA (fun _ => rfl) (by rw [en_13]; exact nI_pos (by omega)) (N' := n_13) (by rw [en_13]; exact nI_clamp (by omega)) (show n_13 * 1 ≤ 536870912 by omega) (by rw [hrc]; omega) (by rw [hrs]; omega) dJ5_init_a7421_44 (fun a_q_10 cA_12 H_11 hK9 hP hD hS => ?_)
    obtain rfl : g 2 = cA_12 := K_one hK9 2 5 rfl rfl
    obtain ⟨hP, hD⟩ := seg_join [[(a_this_, .inr (1, [.null, .int 0, .int 0, .int 0]))]] [[(a_q_10, .inl (g 2, n_13, .inl (fun _ => 0)))]] [[(a_this_, .inr (1, [.null, .int 0, .int 0, .int 0]))], [(a_q_10, .inl (g 2, n_13, .inl (fun _ => 0)))]] 2 [0, 1] rfl rfl (by decide) hP hD
    have hP : va_P (dC, dI) vwCl [(a_this_, .inr (1, [.null, .int 0, .int 0, .int 0])), (a_q_10, .inl (g 2, n_13, .inl (fun _ => 0)))] H_11 := hP
    have hD : va_D A [(a_this_, .inr (1, [.null, .int 0, .int 0, .int 0])), (a_q_10, .inl (g 2, n_13, .inl (fun _ => 0)))] := hD
    refine W.widen (k := 1) (n := 2000) (by omega) (by omega) ?_
    refine lv_goto (tgt := 53) hx hb dJ5_init_a7421_46 (by decide) ?_
    refine va_put (D := (dC, dI)) (ci := 1) (v := .ref a_q_10) (ty := .array .byte) (C := RJ4) (T := TJ4) (N := 4) hx hb hts hiJ4 tyJ4 tyJ4_ok nmJ4 hown hK hP hD hS 0 rfl rfl 0 (by decide) hf15 (fun _ h9 => h9) rfl (by decide +kernel) rfl rfl (Nat.le_of_ble_eq_true rfl) dJ5_init_a7421_53 (fun H_14 L_15 hP hD hS => ?_)
    have hP : va_P (dC, dI) vwCl [(a_this_, .inr (1, [.ref a_q_10, .int 0, .int 0, .int 0])), (a_q_10, .inl (g 2, n_13, .inl (fun _ => 0)))] H_14 := hP
    have hD : va_D A [(a_this_, .inr (1, [.ref a_q_10, .int 0, .int 0, .int 0])), (a_q_10, .inl (g 2, n_13, .inl (fun _ => 0)))] := hD
    refine lv_aload_n hx hb dJ5_init_a7421_56 rfl (lv_at hl 2 rfl) ?_
    refine lv_aload_n hx hb dJ5_init_a7421_57 rfl (lv_at hl 3 rfl) ?_
    obtain ⟨hPs, hDs⟩ := seg_call (segs := [[(a_this_, .inr (1, [.ref a_q_10, .int 0, .int 0, .int 0]))], [(a_q_10, .inl (g 2, n_13, .inl (fun _ => 0)))]]) [] [[(a_this_, .inr (1, [.ref a_q_10, .int 0, .int 0, .int 0]))], [(a_q_10, .inl (g 2, n_13, .inl (fun _ => 0)))]] 2 [0, 1] rfl rfl (by decide) hP hD
    have hPc : va_P (dC, dI) vwCl [(a_this_, .inr (1, [.ref a_q_10, .int 0, .int 0, .int 0])), (a_q_10, .inl (g 2, n_13, .inl (fun _ => 0)))] H_14 := P_r hPs
    have hDc : va_D A [(a_this_, .inr (1, [.ref a_q_10, .int 0, .int 0, .int 0])), (a_q_10, .inl (g 2, n_13, .inl (fun _ => 0)))] := D_r hDs
    have hFc : ∀ q, va_A [(a_this_, .inr (1, [.ref a_q_10, .int 0, .int 0, .int 0])), (a_q_10, .inl (g 2, n_13, .inl (fun _ => 0)))] H_14.size q → A q := A_all hDc hA hS.1
    refine va_callq (va_runU (As := [.ref a_s_]) (rest := []) ⟨hx, hb, hml, hown, hts⟩ (c_J4_append_cf1ce l dC dI g (a_this_ := a_this_) (v_this_ := a_q_10) (c_this_ := n_13) (f_this_ := (fun _ => 0)) (k_this_ := 0) (a_s_ := a_s_) (s__n := s__n) (s__f := s__f) (hw := hw) (sz := H_14.size)) (va_cwO 1 hts (gqO aw_6_132 aw_6_134 aw_6_133 aw_6_135 aw_6_136 aw_1_26 aw_6_137) rfl rfl rfl (aw_l aw_6_144) (by decide +kernel) ⟨Nat.le_of_ble_eq_true rfl, Nat.le_of_ble_eq_true rfl⟩) ⟨PX_blind (GSb_go s__n s__f a_s_), va_recv hK hP (ci := 1) (q0 := 0) rfl rfl, PX_call (GSb_go s__n s__f a_s_) hK hG hS hPc hDc hFc hT⟩ rfl rfl hl.1 rfl (lv_room (Nat.le_of_ble_eq_true rfl)) dJ5_init_a7421_58 ⟨by rw [hrc]; omega, by rw [hrs]; omega⟩) hS (fun q _ h => hFc q h) hFc (fun r_17 u_17 t_17 H_17 L_17 ht_17 hvm_17 hw_17 hB_17 hz_17 hk_17 hS => ?_)
    obtain ⟨v_18, c_19, f_20, k_21, u_17⟩ := u_17
    obtain ⟨rfl, hw⟩ := hw_17
    rw [ht_17] at hB_17
    obtain ⟨hP1, hD1⟩ := hB_17
    obtain ⟨hP, hD⟩ := join_r hPs hDs hk_17 hFc hP1 hD1
    obtain ⟨hP, hD⟩ := seg_join [] [[(a_this_, .inr (1, [.ref v_18, .int 0, .int 0, .int k_21]))], [(v_18, .inl (g 2, c_19, .inl f_20))]] [[(a_this_, .inr (1, [.ref v_18, .int 0, .int 0, .int k_21]))], [(v_18, .inl (g 2, c_19, .inl f_20))]] 2 [0, 1] rfl rfl (by decide) hP hD
    have hP : va_P (dC, dI) vwCl [(a_this_, .inr (1, [.ref v_18, .int 0, .int 0, .int k_21])), (v_18, .inl (g 2, c_19, .inl f_20))] H_17 := hP
    have hD : va_D A [(a_this_, .inr (1, [.ref v_18, .int 0, .int 0, .int k_21])), (v_18, .inl (g 2, c_19, .inl f_20))] := hD
    refine W.widen (k := 2) (n := 4000) (by omega) (by omega) ?_
    refine lv_pop hx hb dJ5_init_a7421_61 rfl ?_
    refine W.widen (k := 2) (n := 4000) (by omega) (by omega) ?_
    subst hQM
    exact W.vret hx hb hr (fun t ht hW => ⟨⟨(v_18, c_19, f_20, k_21, ()), rfl, hw, ⟨P_at ht hP, hD⟩⟩, hS.F ht⟩) hS.2.2 dJ5_init_a7421_62
  refine lv_icmp_ge (tgt := 22) hx hb dJ5_init_a7421_12 (by decide) (fun c_22 => ?_) (fun c_22 => ?_)
  · have hw := hw.1 c_22
    exact hw.elim
  · have hw := hw.2 c_22
    refine lv_iload_n hx hb dJ5_init_a7421_15 rfl (lv_at hl 0 rfl) ?_
    refine lv_bipush (v := 16) hx hb dJ5_init_a7421_16 (by decide) ?_
    refine lv_iadd hx hb dJ5_init_a7421_18 ?_
    refine lv_topi (fun x_23 ex_23 => ?_)
    have hw := hw x_23 ex_23
    refine lv_goto (tgt := 24) hx hb dJ5_init_a7421_19 (by decide) ?_
    refine W.widen (k := 0) (n := 0) (by omega) (by omega) ?_
    exact JN24 x_23 _ _ hw hP hD hS _ (lv_sub hl [1, 2] rfl)
theorem dJ4_init_a7421_0 : decode cJ4_init_a7421 0 = .ok (.aload_n 0, 1) := by decide +kernel
theorem dJ4_init_a7421_1 : decode cJ4_init_a7421 1 = .ok (.aload_n 1, 1) := by decide +kernel
theorem dJ4_init_a7421_2 : decode cJ4_init_a7421 2 = .ok (.invokespecial 7, 3) := by decide +kernel
theorem dJ4_init_a7421_5 : decode cJ4_init_a7421 5 = .ok (.return_, 1) := by decide +kernel

set_option maxHeartbeats 8000000 in
set_option maxRecDepth 100000 in
theorem c_J4_init_a7421 (l : Launch) (dC : Nat → ClassId) (dI : Nat → Nat → Nat) (g : Nat → ClassId) (a_this_ : Nat) (a_s_ s__n : Nat) (s__f : Nat → Int32) (Q : Nat → (Nat → Int32) → Int32 → Prop) (hw : wp_J4_init_a7421 s__n s__f Q) (sz : Nat) : Met l yJ4_init_a7421 wqJ4_init_a7421 ({ frames := 8, cells := 2, slots := 4000, locals := 193 }) (va_Pc [.ref a_this_, .ref a_s_] (PX (GSb s__n s__f a_s_) (dC, dI) g [(a_this_, .inr (1, [.null, .int 0, .int 0, .int 0]))] sz)) (va_Qv (fun (u : Nat × Nat × (Nat → Int32) × Int32 × Unit) => Q u.2.1 u.2.2.1 u.2.2.2.1) (fun (u : Nat × Nat × (Nat → Int32) × Int32 × Unit) t9 => va_P (dC, dI) vwCl [(a_this_, .inr (1, [.ref u.1, .int 0, .int 0, .int u.2.2.2.1])), (u.1, .inl (g 2, u.2.1, .inl u.2.2.1))] t9.heap ∧ va_D (va_A [(a_this_, .inr (1, [.null, .int 0, .int 0, .int 0]))] sz) [(a_this_, .inr (1, [.ref u.1, .int 0, .int 0, .int u.2.2.2.1])), (u.1, .inl (g 2, u.2.1, .inl u.2.2.1))]) (va_A [(a_this_, .inr (1, [.null, .int 0, .int 0, .int 0]))] sz)) 2 4000 (va_A [(a_this_, .inr (1, [.null, .int 0, .int 0, .int 0]))] sz) := by
  refine Met.ofW (cc := cJ4_init_a7421) (maxL := 2) (ret := none) (by decide) rfl ?_
  intro p e s m args below meth c s₁ B hml hv
  obtain ⟨rfl, ⟨hsz, hP, hK, hD0, hG⟩, hT⟩ := hv
  have hx := B.exec
  have hb := B.bytes
  have hr := B.returns
  have hts := atoms_spec (ws := wqJ4_init_a7421) B.pre
  have hown : s.vm.findClass RJ4 = some m.cls := findClass_of_methodNamed B.named
  have hlocks := B.notSynchronized
  subst hsz
  have hD := hD0.self (sz := s.heap.size)
  generalize hAe : va_A [(a_this_, .inr (1, [.null, .int 0, .int 0, .int 0]))] s.heap.size = A at hD hG hT ⊢
  have hA : ∀ q : Nat, s.heap.size ≤ q → A q := fun q h => by rw [← hAe]; exact Or.inr h
  have hS : va_S A s.heap s.heap [] := va_S.rf
  have hrc : (headSpec wqJ4_init_a7421 ({ frames := 8, cells := 2, slots := 4000, locals := 193 })).room.cells = 2 := rfl
  have hrs : (headSpec wqJ4_init_a7421 ({ frames := 8, cells := 2, slots := 4000, locals := 193 })).room.slots = 4000 := rfl
  have hl := lv_entry ([.ref a_this_, .ref a_s_]) (n := 2) (Nat.le_of_ble_eq_true rfl)
  rw [lg_entry_eq]
  generalize (lg_sl ([.ref a_this_, .ref a_s_]) ++ List.replicate (2 - (lg_sl ([.ref a_this_, .ref a_s_])).length) Slot.unset).toArray = ls at hl ⊢
  have hl : lv_has ls 2 [(0, .ref a_this_), (1, .ref a_s_)] := hl
  unfold wp_J4_init_a7421 at hw
  have hiniJ5 := hts (Cond.initialized RJ5) (aw_l aw_1_25)
  have himJ5_init_a7421 := hts (Cond.instanceMethod yJ5_init_a7421) (aw_l aw_6_118)
  have hml7 := hts (Cond.methodLink RJ4 7 yJ5_init_a7421) (aw_l aw_6_117)
  refine lv_aload_n hx hb dJ4_init_a7421_0 rfl (lv_at hl 0 rfl) ?_
  refine lv_aload_n hx hb dJ4_init_a7421_1 rfl (lv_at hl 1 rfl) ?_
  obtain ⟨hPs, hDs⟩ := seg_call (segs := [[(a_this_, .inr (1, [.null, .int 0, .int 0, .int 0]))]]) [] [[(a_this_, .inr (1, [.null, .int 0, .int 0, .int 0]))]] 1 [0] rfl rfl (by decide) hP hD
  have hPc : va_P (dC, dI) vwCl [(a_this_, .inr (1, [.null, .int 0, .int 0, .int 0]))] s.heap := P_r hPs
  have hDc : va_D A [(a_this_, .inr (1, [.null, .int 0, .int 0, .int 0]))] := D_r hDs
  have hFc : ∀ q, va_A [(a_this_, .inr (1, [.null, .int 0, .int 0, .int 0]))] s.heap.size q → A q := A_all hDc hA hS.1
  refine va_callv (va_runI (As := [.ref a_s_]) (rest := []) ⟨hx, hb, hml, hown, hts⟩ (c_J5_init_a7421 l dC dI g (a_this_ := a_this_) (a_s_ := a_s_) (s__n := s__n) (s__f := s__f) (hw := hw) (sz := s.heap.size)) (cwI 1 hts (gq0 aw_6_119) rfl rfl rfl hiniJ5 hml7 himJ5_init_a7421 rfl (by decide +kernel) ⟨Nat.le_of_ble_eq_true rfl, Nat.le_of_ble_eq_true rfl⟩) ⟨PX_blind (GSb_go s__n s__f a_s_), PX_call (GSb_go s__n s__f a_s_) hK hG hS hPc hDc hFc hT⟩ rfl rfl hl.1 rfl (lv_room (Nat.le_of_ble_eq_true rfl)) dJ4_init_a7421_2 ⟨by rw [hrc]; omega, by rw [hrs]; omega⟩) hS (fun q _ h => hFc q h) hFc (fun u_2 t_2 H_2 L_2 ht_2 hvm_2 hw_2 hB_2 hz_2 hk_2 hS => ?_)
  obtain ⟨v_3, c_4, f_5, k_6, u_2⟩ := u_2
  have hw := hw_2
  rw [ht_2] at hB_2
  obtain ⟨hP1, hD1⟩ := hB_2
  obtain ⟨hP, hD⟩ := join_r hPs hDs hk_2 hFc hP1 hD1
  obtain ⟨hP, hD⟩ := seg_join [] [[(a_this_, .inr (1, [.ref v_3, .int 0, .int 0, .int k_6]))], [(v_3, .inl (g 2, c_4, .inl f_5))]] [[(a_this_, .inr (1, [.ref v_3, .int 0, .int 0, .int k_6]))], [(v_3, .inl (g 2, c_4, .inl f_5))]] 2 [0, 1] rfl rfl (by decide) hP hD
  have hP : va_P (dC, dI) vwCl [(a_this_, .inr (1, [.ref v_3, .int 0, .int 0, .int k_6])), (v_3, .inl (g 2, c_4, .inl f_5))] H_2 := hP
  have hD : va_D A [(a_this_, .inr (1, [.ref v_3, .int 0, .int 0, .int k_6])), (v_3, .inl (g 2, c_4, .inl f_5))] := hD
  refine W.widen (k := 2) (n := 4000) (by omega) (by omega) ?_
  refine W.widen (k := 2) (n := 4000) (by omega) (by omega) ?_
  exact W.vret hx hb hr (fun t ht hW => ⟨⟨(v_3, c_4, f_5, k_6, ()), rfl, hw, ⟨P_at ht hP, hD⟩⟩, hS.F ht⟩) hS.2.2 dJ4_init_a7421_5
theorem dJ6_stringSize_0f7a4_0 : decode cJ6_stringSize_0f7a4 0 = .ok (.iconst 1, 1) := by decide +kernel
theorem dJ6_stringSize_0f7a4_1 : decode cJ6_stringSize_0f7a4 1 = .ok (.istore_n 1, 1) := by decide +kernel
theorem dJ6_stringSize_0f7a4_2 : decode cJ6_stringSize_0f7a4 2 = .ok (.iload_n 0, 1) := by decide +kernel
theorem dJ6_stringSize_0f7a4_11 : decode cJ6_stringSize_0f7a4 11 = .ok (.bipush (-10), 2) := by decide +kernel
theorem dJ6_stringSize_0f7a4_13 : decode cJ6_stringSize_0f7a4 13 = .ok (.istore_n 2, 1) := by decide +kernel
theorem dJ6_stringSize_0f7a4_14 : decode cJ6_stringSize_0f7a4 14 = .ok (.iconst 1, 1) := by decide +kernel
theorem dJ6_stringSize_0f7a4_15 : decode cJ6_stringSize_0f7a4 15 = .ok (.istore_n 3, 1) := by decide +kernel
theorem dJ6_stringSize_0f7a4_27 : decode cJ6_stringSize_0f7a4 27 = .ok (.iload_n 3, 1) := by decide +kernel
theorem dJ6_stringSize_0f7a4_28 : decode cJ6_stringSize_0f7a4 28 = .ok (.iload_n 1, 1) := by decide +kernel
theorem dJ6_stringSize_0f7a4_29 : decode cJ6_stringSize_0f7a4 29 = .ok (.iadd, 1) := by decide +kernel
theorem dJ6_stringSize_0f7a4_30 : decode cJ6_stringSize_0f7a4 30 = .ok (.ireturn, 1) := by decide +kernel
theorem dJ6_stringSize_0f7a4_42 : decode cJ6_stringSize_0f7a4 42 = .ok (.bipush 10, 2) := by decide +kernel
theorem dJ6_stringSize_0f7a4_44 : decode cJ6_stringSize_0f7a4 44 = .ok (.iload_n 1, 1) := by decide +kernel
theorem dJ6_stringSize_0f7a4_45 : decode cJ6_stringSize_0f7a4 45 = .ok (.iadd, 1) := by decide +kernel
theorem dJ6_stringSize_0f7a4_46 : decode cJ6_stringSize_0f7a4 46 = .ok (.ireturn, 1) := by decide +kernel
theorem dJ6_stringSize_0f7a4_16 : decode cJ6_stringSize_0f7a4 16 = .ok (.iload_n 3, 1) := by decide +kernel
theorem dJ6_stringSize_0f7a4_17 : decode cJ6_stringSize_0f7a4 17 = .ok (.bipush 10, 2) := by decide +kernel
theorem dJ6_stringSize_0f7a4_19 : decode cJ6_stringSize_0f7a4 19 = .ok (.if_icmp .ge 23, 3) := by decide +kernel
theorem dJ6_stringSize_0f7a4_22 : decode cJ6_stringSize_0f7a4 22 = .ok (.iload_n 0, 1) := by decide +kernel
theorem dJ6_stringSize_0f7a4_23 : decode cJ6_stringSize_0f7a4 23 = .ok (.iload_n 2, 1) := by decide +kernel
theorem dJ6_stringSize_0f7a4_24 : decode cJ6_stringSize_0f7a4 24 = .ok (.if_icmp .le 7, 3) := by decide +kernel
theorem dJ6_stringSize_0f7a4_31 : decode cJ6_stringSize_0f7a4 31 = .ok (.bipush 10, 2) := by decide +kernel
theorem dJ6_stringSize_0f7a4_33 : decode cJ6_stringSize_0f7a4 33 = .ok (.iload_n 2, 1) := by decide +kernel
theorem dJ6_stringSize_0f7a4_34 : decode cJ6_stringSize_0f7a4 34 = .ok (.imul, 1) := by decide +kernel
theorem dJ6_stringSize_0f7a4_35 : decode cJ6_stringSize_0f7a4 35 = .ok (.istore_n 2, 1) := by decide +kernel
theorem dJ6_stringSize_0f7a4_36 : decode cJ6_stringSize_0f7a4 36 = .ok (.iinc 3 1, 3) := by decide +kernel
theorem dJ6_stringSize_0f7a4_39 : decode cJ6_stringSize_0f7a4 39 = .ok (.goto (-23), 3) := by decide +kernel
theorem dJ6_stringSize_0f7a4_3 : decode cJ6_stringSize_0f7a4 3 = .ok (.ifCond .lt 8, 3) := by decide +kernel
theorem dJ6_stringSize_0f7a4_6 : decode cJ6_stringSize_0f7a4 6 = .ok (.iconst 0, 1) := by decide +kernel
theorem dJ6_stringSize_0f7a4_7 : decode cJ6_stringSize_0f7a4 7 = .ok (.istore_n 1, 1) := by decide +kernel
theorem dJ6_stringSize_0f7a4_8 : decode cJ6_stringSize_0f7a4 8 = .ok (.iload_n 0, 1) := by decide +kernel
theorem dJ6_stringSize_0f7a4_9 : decode cJ6_stringSize_0f7a4 9 = .ok (.ineg, 1) := by decide +kernel
theorem dJ6_stringSize_0f7a4_10 : decode cJ6_stringSize_0f7a4 10 = .ok (.istore_n 0, 1) := by decide +kernel

set_option maxHeartbeats 8000000 in
set_option maxRecDepth 100000 in
theorem c_J6_stringSize_0f7a4 (l : Launch) (dC : Nat → ClassId) (dI : Nat → Nat → Nat) (g : Nat → ClassId) (x_ : Int32) (Q : Int32 → Prop) (hw : wp_J6_stringSize_0f7a4 x_ Q) (sz : Nat) : Met l yJ6_stringSize_0f7a4 wqJ6_stringSize_0f7a4 ({ frames := 0, cells := 0, slots := 0, locals := 0 }) (va_Pc [.int x_] (PG (dC, dI) g [] sz)) (va_Qi (fun (r : Int32) (u : Unit) => Q r) (fun (u : Unit) t9 => va_P (dC, dI) vwCl [] t9.heap ∧ va_D (va_A [] sz) []) (va_A [] sz)) 0 0 (va_A [] sz) := by
  refine Met.ofW (cc := cJ6_stringSize_0f7a4) (maxL := 4) (ret := (some .int)) (by decide) rfl ?_
  intro p e s m args below meth c s₁ B hml hv
  obtain ⟨rfl, hsz, hP, hK, hD0, hG⟩ := hv
  have hx := B.exec
  have hb := B.bytes
  have hr := B.returns
  have hts := atoms_spec (ws := wqJ6_stringSize_0f7a4) B.pre
  have hown : s.vm.findClass RJ6 = some m.cls := findClass_of_methodNamed B.named
  have hlocks := B.notSynchronized
  subst hsz
  have hD := hD0.self (sz := s.heap.size)
  generalize hAe : va_A [] s.heap.size = A at hD hG ⊢
  have hA : ∀ q : Nat, s.heap.size ≤ q → A q := fun q h => by rw [← hAe]; exact Or.inr h
  have hS : va_S A s.heap s.heap [] := va_S.rf
  have hrc : (headSpec wqJ6_stringSize_0f7a4 ({ frames := 0, cells := 0, slots := 0, locals := 0 })).room.cells = 0 := rfl
  have hrs : (headSpec wqJ6_stringSize_0f7a4 ({ frames := 0, cells := 0, slots := 0, locals := 0 })).room.slots = 0 := rfl
  have hl := lv_entry ([.int x_]) (n := 4) (Nat.le_of_ble_eq_true rfl)
  rw [lg_entry_eq]
  generalize (lg_sl ([.int x_]) ++ List.replicate (4 - (lg_sl ([.int x_])).length) Slot.unset).toArray = ls at hl ⊢
  have hl : lv_has ls 4 [(0, .int x_)] := hl
  unfold wp_J6_stringSize_0f7a4 at hw
  refine lv_iconst (v := 1) hx hb dJ6_stringSize_0f7a4_0 (by decide) ?_
  refine lv_istore_n (lv' := [(1, .int 1), (0, .int x_)]) hx hb dJ6_stringSize_0f7a4_1 rfl hl (by decide) rfl (fun ls hl => ?_)
  refine lv_iload_n hx hb dJ6_stringSize_0f7a4_2 rfl (lv_at hl 1 rfl) ?_
  refine W_abs (fun QM hQM => ?_)
  have JN11 : ∀ (v0_1 : Int32) (v1_2 : Bool) (H : Heap) (locs : List Loc), (wj_J6_stringSize_0f7a4_11 Q) v0_1 v1_2 → va_P (dC, dI) vwCl [] H → va_D A [] → va_S A s.heap H locs → ∀ (ls : Array Slot), lv_has ls 4 [(0, .int v0_1), (1, .int (b2i v1_2))] → W p l e (headSpec wqJ6_stringSize_0f7a4 ({ frames := 0, cells := 0, slots := 0, locals := 0 })).room s m ([.int x_] : List Value).toArray below meth c H locs 0 0 QM (F0 m 11 ls []) := by
    intro v0_1 v1_2 H locs hw hP hD hS ls hl
    refine lv_bipush (v := (-10)) hx hb dJ6_stringSize_0f7a4_11 (by decide) ?_
    refine lv_istore_n (lv' := [(2, .int (-10)), (0, .int v0_1), (1, .int (b2i v1_2))]) hx hb dJ6_stringSize_0f7a4_13 rfl hl (by decide) rfl (fun ls hl => ?_)
    refine lv_iconst (v := 1) hx hb dJ6_stringSize_0f7a4_14 (by decide) ?_
    refine lv_istore_n (lv' := [(3, .int 1), (2, .int (-10)), (0, .int v0_1), (1, .int (b2i v1_2))]) hx hb dJ6_stringSize_0f7a4_15 rfl hl (by decide) rfl (fun ls hl => ?_)
    have EX16_27 : ∀ (v3_5 : Int32) (H : Heap) (locs : List Loc), (wx_J6_stringSize_0f7a4_16_27 Q v1_2) v3_5 → va_P (dC, dI) vwCl [] H → va_D A [] → va_S A s.heap H locs → ∀ (ls : Array Slot), lv_has ls 4 [(1, .int (b2i v1_2)), (3, .int v3_5)] → W p l e (headSpec wqJ6_stringSize_0f7a4 ({ frames := 0, cells := 0, slots := 0, locals := 0 })).room s m ([.int x_] : List Value).toArray below meth c H locs 0 0 QM (F0 m 27 ls []) := by
      intro v3_5 H locs hw hP hD hS ls hl
      refine lv_iload_n hx hb dJ6_stringSize_0f7a4_27 rfl (lv_at hl 1 rfl) ?_
      refine lv_iload_n hx hb dJ6_stringSize_0f7a4_28 rfl (lv_at hl 0 rfl) ?_
      refine lv_iadd hx hb dJ6_stringSize_0f7a4_29 ?_
      refine lv_topi (fun x_6 ex_6 => ?_)
      have hw := hw x_6 ex_6
      refine W.widen (k := 0) (n := 0) (by omega) (by omega) ?_
      subst hQM
      exact W.iret (v := x_6) hx hb hr (fun t ht hW => ⟨⟨x_6, (()), rfl, hw, ⟨P_at ht hP, hD⟩⟩, hS.F ht⟩) hS.2.2 dJ6_stringSize_0f7a4_30
    have EX16_42 : ∀  (H : Heap) (locs : List Loc), (wx_J6_stringSize_0f7a4_16_42 Q v1_2)  → va_P (dC, dI) vwCl [] H → va_D A [] → va_S A s.heap H locs → ∀ (ls : Array Slot), lv_has ls 4 [(1, .int (b2i v1_2))] → W p l e (headSpec wqJ6_stringSize_0f7a4 ({ frames := 0, cells := 0, slots := 0, locals := 0 })).room s m ([.int x_] : List Value).toArray below meth c H locs 0 0 QM (F0 m 42 ls []) := by
      intro  H locs hw hP hD hS ls hl
      refine lv_bipush (v := 10) hx hb dJ6_stringSize_0f7a4_42 (by decide) ?_
      refine lv_iload_n hx hb dJ6_stringSize_0f7a4_44 rfl (lv_at hl 0 rfl) ?_
      refine lv_iadd hx hb dJ6_stringSize_0f7a4_45 ?_
      refine lv_topi (fun x_7 ex_7 => ?_)
      have hw := hw x_7 ex_7
      refine W.widen (k := 0) (n := 0) (by omega) (by omega) ?_
      subst hQM
      exact W.iret (v := x_7) hx hb hr (fun t ht hW => ⟨⟨x_7, (()), rfl, hw, ⟨P_at ht hP, hD⟩⟩, hS.F ht⟩) hS.2.2 dJ6_stringSize_0f7a4_46
    have LOOP16 : ∀ (n16 : Nat) (v3_3 : Int32) (v2_4 : Int32) (H : Heap) (locs : List Loc), wl_J6_stringSize_0f7a4_16 v0_1 (wx_J6_stringSize_0f7a4_16_27 Q v1_2) (wx_J6_stringSize_0f7a4_16_42 Q v1_2) n16 v3_3 v2_4 → va_P (dC, dI) vwCl [] H → va_D A [] → va_S A s.heap H locs → ∀ (ls : Array Slot), lv_has ls 4 [(0, .int v0_1), (1, .int (b2i v1_2)), (2, .int v2_4), (3, .int v3_3)] → W p l e (headSpec wqJ6_stringSize_0f7a4 ({ frames := 0, cells := 0, slots := 0, locals := 0 })).room s m ([.int x_] : List Value).toArray below meth c H locs 0 0 QM (F0 m 16 ls []) := by
      intro n16
      induction n16 with
      | zero =>
        intro v3_3 v2_4 H locs hw hP hD hS ls hl
        exact False.elim hw
      | succ n16 ih16 =>
        intro v3_3 v2_4 H locs hw hP hD hS ls hl
        rw [wl_J6_stringSize_0f7a4_16_s] at hw
        refine lv_iload_n hx hb dJ6_stringSize_0f7a4_16 rfl (lv_at hl 3 rfl) ?_
        refine lv_bipush (v := 10) hx hb dJ6_stringSize_0f7a4_17 (by decide) ?_
        refine lv_icmp_ge (tgt := 42) hx hb dJ6_stringSize_0f7a4_19 (by decide) (fun c_8 => ?_) (fun c_8 => ?_)
        · have hw := hw.1 c_8
          refine W.widen (k := 0) (n := 0) (by omega) (by omega) ?_
          exact EX16_42  _ _ hw hP hD hS _ (lv_sub hl [1] rfl)
        · have hw := hw.2 c_8
          refine lv_iload_n hx hb dJ6_stringSize_0f7a4_22 rfl (lv_at hl 0 rfl) ?_
          refine lv_iload_n hx hb dJ6_stringSize_0f7a4_23 rfl (lv_at hl 2 rfl) ?_
          refine lv_icmp_le (tgt := 31) hx hb dJ6_stringSize_0f7a4_24 (by decide) (fun c_9 => ?_) (fun c_9 => ?_)
          · have hw := hw.1 c_9
            refine lv_bipush (v := 10) hx hb dJ6_stringSize_0f7a4_31 (by decide) ?_
            refine lv_iload_n hx hb dJ6_stringSize_0f7a4_33 rfl (lv_at hl 2 rfl) ?_
            refine lv_imul hx hb dJ6_stringSize_0f7a4_34 ?_
            refine lv_topi (fun x_10 ex_10 => ?_)
            have hw := hw x_10 ex_10
            refine lv_istore_n (lv' := [(2, .int x_10), (0, .int v0_1), (1, .int (b2i v1_2)), (3, .int v3_3)]) hx hb dJ6_stringSize_0f7a4_35 rfl hl (by decide) rfl (fun ls hl => ?_)
            obtain ⟨x_11, ex_11⟩ : ∃ y : Int32, y = v3_3 + 1 := ⟨_, rfl⟩
            have hw := hw x_11 ex_11
            refine lv_iinc (v := x_11) (lv' := [(3, .int x_11), (2, .int x_10), (0, .int v0_1), (1, .int (b2i v1_2))]) hx hb dJ6_stringSize_0f7a4_36 hl (k := 3) rfl (by rw [ex_11]; rfl) (by decide) rfl (fun ls hl => ?_)
            refine lv_goto (tgt := 16) hx hb dJ6_stringSize_0f7a4_39 (by decide) ?_
            refine W.widen (k := 0) (n := 0) (by omega) (by omega) ?_
            exact ih16 x_11 x_10 _ _ hw hP hD hS _ (lv_sub hl [2, 3, 1, 0] rfl)
          · have hw := hw.2 c_9
            refine W.widen (k := 0) (n := 0) (by omega) (by omega) ?_
            exact EX16_27 v3_3 _ _ hw hP hD hS _ (lv_sub hl [1, 3] rfl)
    obtain ⟨n16, hw⟩ := hw
    refine W.widen (k := 0) (n := 0) (by omega) (by omega) ?_
    exact LOOP16 n16 1 (-10) _ _ hw hP hD hS _ (lv_sub hl [2, 3, 1, 0] rfl)
  refine lv_if_lt (tgt := 11) hx hb dJ6_stringSize_0f7a4_3 (by decide) (fun c_12 => ?_) (fun c_12 => ?_)
  · have hw := hw.1 c_12
    refine W.widen (k := 0) (n := 0) (by omega) (by omega) ?_
    exact JN11 x_ true _ _ hw hP hD hS _ (lv_sub hl [1, 0] rfl)
  · have hw := hw.2 c_12
    refine lv_iconst (v := 0) hx hb dJ6_stringSize_0f7a4_6 (by decide) ?_
    refine lv_istore_n (lv' := [(1, .int 0), (0, .int x_)]) hx hb dJ6_stringSize_0f7a4_7 rfl hl (by decide) rfl (fun ls hl => ?_)
    refine lv_iload_n hx hb dJ6_stringSize_0f7a4_8 rfl (lv_at hl 1 rfl) ?_
    refine lv_ineg hx hb dJ6_stringSize_0f7a4_9 ?_
    refine lv_topi (fun x_13 ex_13 => ?_)
    have hw := hw x_13 ex_13
    refine lv_istore_n (lv' := [(0, .int x_13), (1, .int 0)]) hx hb dJ6_stringSize_0f7a4_10 rfl hl (by decide) rfl (fun ls hl => ?_)
    refine W.widen (k := 0) (n := 0) (by omega) (by omega) ?_
    exact JN11 x_13 false _ _ hw hP hD hS _ (lv_sub hl [0, 1] rfl)
theorem dJ6_getChars_ba4f3_0 : decode cJ6_getChars_ba4f3 0 = .ok (.iload_n 1, 1) := by decide +kernel
theorem dJ6_getChars_ba4f3_1 : decode cJ6_getChars_ba4f3 1 = .ok (.istore 5, 2) := by decide +kernel
theorem dJ6_getChars_ba4f3_3 : decode cJ6_getChars_ba4f3 3 = .ok (.iload_n 0, 1) := by decide +kernel
theorem dJ6_getChars_ba4f3_12 : decode cJ6_getChars_ba4f3 12 = .ok (.istore 6, 2) := by decide +kernel
theorem dJ6_getChars_ba4f3_14 : decode cJ6_getChars_ba4f3 14 = .ok (.iload 6, 2) := by decide +kernel
theorem dJ6_getChars_ba4f3_72 : decode cJ6_getChars_ba4f3 72 = .ok (.aload_n 2, 1) := by decide +kernel
theorem dJ6_getChars_ba4f3_73 : decode cJ6_getChars_ba4f3 73 = .ok (.iinc 5 (-1), 3) := by decide +kernel
theorem dJ6_getChars_ba4f3_76 : decode cJ6_getChars_ba4f3 76 = .ok (.iload 5, 2) := by decide +kernel
theorem dJ6_getChars_ba4f3_78 : decode cJ6_getChars_ba4f3 78 = .ok (.getstatic 83, 3) := by decide +kernel
theorem dJ6_getChars_ba4f3_81 : decode cJ6_getChars_ba4f3 81 = .ok (.iload_n 0, 1) := by decide +kernel
theorem dJ6_getChars_ba4f3_82 : decode cJ6_getChars_ba4f3 82 = .ok (.ineg, 1) := by decide +kernel
theorem dJ6_getChars_ba4f3_83 : decode cJ6_getChars_ba4f3 83 = .ok (.baload, 1) := by decide +kernel
theorem dJ6_getChars_ba4f3_84 : decode cJ6_getChars_ba4f3 84 = .ok (.bastore, 1) := by decide +kernel
theorem dJ6_getChars_ba4f3_85 : decode cJ6_getChars_ba4f3 85 = .ok (.iload_n 0, 1) := by decide +kernel
theorem dJ6_getChars_ba4f3_86 : decode cJ6_getChars_ba4f3 86 = .ok (.bipush (-9), 2) := by decide +kernel
theorem dJ6_getChars_ba4f3_104 : decode cJ6_getChars_ba4f3 104 = .ok (.iload 6, 2) := by decide +kernel
theorem dJ6_getChars_ba4f3_106 : decode cJ6_getChars_ba4f3 106 = .ok (.ifCond .eq 12, 3) := by decide +kernel
theorem dJ6_getChars_ba4f3_118 : decode cJ6_getChars_ba4f3 118 = .ok (.iload 5, 2) := by decide +kernel
theorem dJ6_getChars_ba4f3_120 : decode cJ6_getChars_ba4f3 120 = .ok (.ireturn, 1) := by decide +kernel
theorem dJ6_getChars_ba4f3_109 : decode cJ6_getChars_ba4f3 109 = .ok (.aload_n 2, 1) := by decide +kernel
theorem dJ6_getChars_ba4f3_110 : decode cJ6_getChars_ba4f3 110 = .ok (.iinc 5 (-1), 3) := by decide +kernel
theorem dJ6_getChars_ba4f3_113 : decode cJ6_getChars_ba4f3 113 = .ok (.iload 5, 2) := by decide +kernel
theorem dJ6_getChars_ba4f3_115 : decode cJ6_getChars_ba4f3 115 = .ok (.bipush 45, 2) := by decide +kernel
theorem dJ6_getChars_ba4f3_117 : decode cJ6_getChars_ba4f3 117 = .ok (.bastore, 1) := by decide +kernel
theorem dJ6_getChars_ba4f3_88 : decode cJ6_getChars_ba4f3 88 = .ok (.if_icmp .ge 16, 3) := by decide +kernel
theorem dJ6_getChars_ba4f3_91 : decode cJ6_getChars_ba4f3 91 = .ok (.aload_n 2, 1) := by decide +kernel
theorem dJ6_getChars_ba4f3_92 : decode cJ6_getChars_ba4f3 92 = .ok (.iinc 5 (-1), 3) := by decide +kernel
theorem dJ6_getChars_ba4f3_95 : decode cJ6_getChars_ba4f3 95 = .ok (.iload 5, 2) := by decide +kernel
theorem dJ6_getChars_ba4f3_97 : decode cJ6_getChars_ba4f3 97 = .ok (.getstatic 87, 3) := by decide +kernel
theorem dJ6_getChars_ba4f3_100 : decode cJ6_getChars_ba4f3 100 = .ok (.iload_n 0, 1) := by decide +kernel
theorem dJ6_getChars_ba4f3_101 : decode cJ6_getChars_ba4f3 101 = .ok (.ineg, 1) := by decide +kernel
theorem dJ6_getChars_ba4f3_102 : decode cJ6_getChars_ba4f3 102 = .ok (.baload, 1) := by decide +kernel
theorem dJ6_getChars_ba4f3_103 : decode cJ6_getChars_ba4f3 103 = .ok (.bastore, 1) := by decide +kernel
theorem dJ6_getChars_ba4f3_22 : decode cJ6_getChars_ba4f3 22 = .ok (.iload_n 0, 1) := by decide +kernel
theorem dJ6_getChars_ba4f3_23 : decode cJ6_getChars_ba4f3 23 = .ok (.bipush (-100), 2) := by decide +kernel
theorem dJ6_getChars_ba4f3_25 : decode cJ6_getChars_ba4f3 25 = .ok (.if_icmp .gt 47, 3) := by decide +kernel
theorem dJ6_getChars_ba4f3_28 : decode cJ6_getChars_ba4f3 28 = .ok (.iload_n 0, 1) := by decide +kernel
theorem dJ6_getChars_ba4f3_29 : decode cJ6_getChars_ba4f3 29 = .ok (.bipush 100, 2) := by decide +kernel
theorem dJ6_getChars_ba4f3_31 : decode cJ6_getChars_ba4f3 31 = .ok (.idiv, 1) := by decide +kernel
theorem dJ6_getChars_ba4f3_32 : decode cJ6_getChars_ba4f3 32 = .ok (.istore_n 3, 1) := by decide +kernel
theorem dJ6_getChars_ba4f3_33 : decode cJ6_getChars_ba4f3 33 = .ok (.iload_n 3, 1) := by decide +kernel
theorem dJ6_getChars_ba4f3_34 : decode cJ6_getChars_ba4f3 34 = .ok (.bipush 100, 2) := by decide +kernel
theorem dJ6_getChars_ba4f3_36 : decode cJ6_getChars_ba4f3 36 = .ok (.imul, 1) := by decide +kernel
theorem dJ6_getChars_ba4f3_37 : decode cJ6_getChars_ba4f3 37 = .ok (.iload_n 0, 1) := by decide +kernel
theorem dJ6_getChars_ba4f3_38 : decode cJ6_getChars_ba4f3 38 = .ok (.isub, 1) := by decide +kernel
theorem dJ6_getChars_ba4f3_39 : decode cJ6_getChars_ba4f3 39 = .ok (.istore 4, 2) := by decide +kernel
theorem dJ6_getChars_ba4f3_41 : decode cJ6_getChars_ba4f3 41 = .ok (.iload_n 3, 1) := by decide +kernel
theorem dJ6_getChars_ba4f3_42 : decode cJ6_getChars_ba4f3 42 = .ok (.istore_n 0, 1) := by decide +kernel
theorem dJ6_getChars_ba4f3_43 : decode cJ6_getChars_ba4f3 43 = .ok (.aload_n 2, 1) := by decide +kernel
theorem dJ6_getChars_ba4f3_44 : decode cJ6_getChars_ba4f3 44 = .ok (.iinc 5 (-1), 3) := by decide +kernel
theorem dJ6_getChars_ba4f3_47 : decode cJ6_getChars_ba4f3 47 = .ok (.iload 5, 2) := by decide +kernel
theorem dJ6_getChars_ba4f3_49 : decode cJ6_getChars_ba4f3 49 = .ok (.getstatic 83, 3) := by decide +kernel
theorem dJ6_getChars_ba4f3_52 : decode cJ6_getChars_ba4f3 52 = .ok (.iload 4, 2) := by decide +kernel
theorem dJ6_getChars_ba4f3_54 : decode cJ6_getChars_ba4f3 54 = .ok (.baload, 1) := by decide +kernel
theorem dJ6_getChars_ba4f3_55 : decode cJ6_getChars_ba4f3 55 = .ok (.bastore, 1) := by decide +kernel
theorem dJ6_getChars_ba4f3_56 : decode cJ6_getChars_ba4f3 56 = .ok (.aload_n 2, 1) := by decide +kernel
theorem dJ6_getChars_ba4f3_57 : decode cJ6_getChars_ba4f3 57 = .ok (.iinc 5 (-1), 3) := by decide +kernel
theorem dJ6_getChars_ba4f3_60 : decode cJ6_getChars_ba4f3 60 = .ok (.iload 5, 2) := by decide +kernel
theorem dJ6_getChars_ba4f3_62 : decode cJ6_getChars_ba4f3 62 = .ok (.getstatic 87, 3) := by decide +kernel
theorem dJ6_getChars_ba4f3_65 : decode cJ6_getChars_ba4f3 65 = .ok (.iload 4, 2) := by decide +kernel
theorem dJ6_getChars_ba4f3_67 : decode cJ6_getChars_ba4f3 67 = .ok (.baload, 1) := by decide +kernel
theorem dJ6_getChars_ba4f3_68 : decode cJ6_getChars_ba4f3 68 = .ok (.bastore, 1) := by decide +kernel
theorem dJ6_getChars_ba4f3_69 : decode cJ6_getChars_ba4f3 69 = .ok (.goto (-47), 3) := by decide +kernel
theorem dJ6_getChars_ba4f3_16 : decode cJ6_getChars_ba4f3 16 = .ok (.ifCond .ne 6, 3) := by decide +kernel
theorem dJ6_getChars_ba4f3_19 : decode cJ6_getChars_ba4f3 19 = .ok (.iload_n 0, 1) := by decide +kernel
theorem dJ6_getChars_ba4f3_20 : decode cJ6_getChars_ba4f3 20 = .ok (.ineg, 1) := by decide +kernel
theorem dJ6_getChars_ba4f3_21 : decode cJ6_getChars_ba4f3 21 = .ok (.istore_n 0, 1) := by decide +kernel
theorem dJ6_getChars_ba4f3_4 : decode cJ6_getChars_ba4f3 4 = .ok (.ifCond .ge 7, 3) := by decide +kernel
theorem dJ6_getChars_ba4f3_11 : decode cJ6_getChars_ba4f3 11 = .ok (.iconst 0, 1) := by decide +kernel
theorem dJ6_getChars_ba4f3_7 : decode cJ6_getChars_ba4f3 7 = .ok (.iconst 1, 1) := by decide +kernel
theorem dJ6_getChars_ba4f3_8 : decode cJ6_getChars_ba4f3 8 = .ok (.goto 4, 3) := by decide +kernel

set_option maxHeartbeats 8000000 in
set_option maxRecDepth 100000 in
theorem c_J6_getChars_ba4f3 (l : Launch) (dC : Nat → ClassId) (dI : Nat → Nat → Nat) (g : Nat → ClassId) (i_ : Int32) (n_ : Int32) (a_v_ n_v_ : Nat) (v_ : Nat → Int32) (Q : Int32 → (Nat → Int32) → Prop) (hw : wp_J6_getChars_ba4f3 i_ n_ n_v_ v_ Q) (sz : Nat) : Met l yJ6_getChars_ba4f3 wqJ6_getChars_ba4f3 ({ frames := 0, cells := 0, slots := 0, locals := 0 }) (va_Pc [.int i_, .int n_, .ref a_v_] (PG (dC, dI) g [(a_v_, .inl (g 2, n_v_, .inl v_))] sz)) (va_Qi (fun (r : Int32) (u : (Nat → Int32) × Unit) => Q r u.1) (fun (u : (Nat → Int32) × Unit) t9 => va_P (dC, dI) vwCl [(a_v_, .inl (g 2, n_v_, .inl u.1))] t9.heap ∧ va_D (va_A [(a_v_, .inl (g 2, n_v_, .inl v_))] sz) [(a_v_, .inl (g 2, n_v_, .inl u.1))]) (va_A [(a_v_, .inl (g 2, n_v_, .inl v_))] sz)) 0 0 (va_A [(a_v_, .inl (g 2, n_v_, .inl v_))] sz) := by
  refine Met.ofW (cc := cJ6_getChars_ba4f3) (maxL := 7) (ret := (some .int)) (by decide) rfl ?_
  intro p e s m args below meth c s₁ B hml hv
  obtain ⟨rfl, hsz, hP, hK, hD0, hG⟩ := hv
  have hx := B.exec
  have hb := B.bytes
  have hr := B.returns
  have hts := atoms_spec (ws := wqJ6_getChars_ba4f3) B.pre
  have hown : s.vm.findClass RJ6 = some m.cls := findClass_of_methodNamed B.named
  have hlocks := B.notSynchronized
  subst hsz
  have hD := hD0.self (sz := s.heap.size)
  generalize hAe : va_A [(a_v_, .inl (g 2, n_v_, .inl v_))] s.heap.size = A at hD hG ⊢
  have hA : ∀ q : Nat, s.heap.size ≤ q → A q := fun q h => by rw [← hAe]; exact Or.inr h
  have hS : va_S A s.heap s.heap [] := va_S.rf
  have hrc : (headSpec wqJ6_getChars_ba4f3 ({ frames := 0, cells := 0, slots := 0, locals := 0 })).room.cells = 0 := rfl
  have hrs : (headSpec wqJ6_getChars_ba4f3 ({ frames := 0, cells := 0, slots := 0, locals := 0 })).room.slots = 0 := rfl
  have hl := lv_entry ([.int i_, .int n_, .ref a_v_]) (n := 7) (Nat.le_of_ble_eq_true rfl)
  rw [lg_entry_eq]
  generalize (lg_sl ([.int i_, .int n_, .ref a_v_]) ++ List.replicate (7 - (lg_sl ([.int i_, .int n_, .ref a_v_])).length) Slot.unset).toArray = ls at hl ⊢
  have hl : lv_has ls 7 [(0, .int i_), (1, .int n_), (2, .ref a_v_)] := hl
  unfold wp_J6_getChars_ba4f3 at hw
  have hf83 := hts (Cond.fieldLink RJ6 83 "java/lang/Integer" "DigitOnes" "[B") (aw_l aw_7_34)
  obtain ⟨d9o, hZ9o, hD9o⟩ := dg_o hG
  have hf87 := hts (Cond.fieldLink RJ6 87 "java/lang/Integer" "DigitTens" "[B") (aw_l aw_7_36)
  obtain ⟨d9t, hZ9t, hD9t⟩ := dg_t hG
  refine lv_iload_n hx hb dJ6_getChars_ba4f3_0 rfl (lv_at hl 1 rfl) ?_
  refine lv_istore (lv' := [(5, .int n_), (0, .int i_), (1, .int n_), (2, .ref a_v_)]) hx hb dJ6_getChars_ba4f3_1 hl (by decide) rfl (fun ls hl => ?_)
  refine lv_iload_n hx hb dJ6_getChars_ba4f3_3 rfl (lv_at hl 1 rfl) ?_
  refine W_abs (fun QM hQM => ?_)
  have JN12 : ∀ (sk0_1 : Bool) (H : Heap) (locs : List Loc), (wj_J6_getChars_ba4f3_12 i_ n_ n_v_ v_ Q) sk0_1 → va_P (dC, dI) vwCl [(a_v_, .inl (g 2, n_v_, .inl v_))] H → va_D A [(a_v_, .inl (g 2, n_v_, .inl v_))] → va_S A s.heap H locs → ∀ (ls : Array Slot), lv_has ls 7 [(0, .int i_), (2, .ref a_v_), (5, .int n_)] → W p l e (headSpec wqJ6_getChars_ba4f3 ({ frames := 0, cells := 0, slots := 0, locals := 0 })).room s m ([.int i_, .int n_, .ref a_v_] : List Value).toArray below meth c H locs 0 0 QM (F0 m 12 ls [.int (b2i sk0_1)]) := by
    intro sk0_1 H locs hw hP hD hS ls hl
    refine lv_istore (lv' := [(6, .int (b2i sk0_1)), (0, .int i_), (2, .ref a_v_), (5, .int n_)]) hx hb dJ6_getChars_ba4f3_12 hl (by decide) rfl (fun ls hl => ?_)
    refine lv_iload hx hb dJ6_getChars_ba4f3_14 (lv_at hl 0 rfl) ?_
    have JN22 : ∀ (v0_2 : Int32) (H : Heap) (locs : List Loc), (wj_J6_getChars_ba4f3_22 n_ n_v_ v_ Q sk0_1) v0_2 → va_P (dC, dI) vwCl [(a_v_, .inl (g 2, n_v_, .inl v_))] H → va_D A [(a_v_, .inl (g 2, n_v_, .inl v_))] → va_S A s.heap H locs → ∀ (ls : Array Slot), lv_has ls 7 [(0, .int v0_2), (2, .ref a_v_), (5, .int n_), (6, .int (b2i sk0_1))] → W p l e (headSpec wqJ6_getChars_ba4f3 ({ frames := 0, cells := 0, slots := 0, locals := 0 })).room s m ([.int i_, .int n_, .ref a_v_] : List Value).toArray below meth c H locs 0 0 QM (F0 m 22 ls []) := by
      intro v0_2 H locs hw hP hD hS ls hl
      have EX22_72 : ∀ (v5_6 : Int32) (v0_7 : Int32) (v__8 : Nat → Int32) (H : Heap) (locs : List Loc), (wx_J6_getChars_ba4f3_22_72 n_v_ Q sk0_1) v5_6 v0_7 v__8 → va_P (dC, dI) vwCl [(a_v_, .inl (g 2, n_v_, .inl v__8))] H → va_D A [(a_v_, .inl (g 2, n_v_, .inl v__8))] → va_S A s.heap H locs → ∀ (ls : Array Slot), lv_has ls 7 [(0, .int v0_7), (2, .ref a_v_), (5, .int v5_6), (6, .int (b2i sk0_1))] → W p l e (headSpec wqJ6_getChars_ba4f3 ({ frames := 0, cells := 0, slots := 0, locals := 0 })).room s m ([.int i_, .int n_, .ref a_v_] : List Value).toArray below meth c H locs 0 0 QM (F0 m 72 ls []) := by
        intro v5_6 v0_7 v__8 H locs hw hP hD hS ls hl
        refine lv_aload_n hx hb dJ6_getChars_ba4f3_72 rfl (lv_at hl 1 rfl) ?_
        obtain ⟨x_9, ex_9⟩ : ∃ y : Int32, y = v5_6 + (-1) := ⟨_, rfl⟩
        have hw := hw x_9 ex_9
        refine lv_iinc (v := x_9) (lv' := [(5, .int x_9), (0, .int v0_7), (2, .ref a_v_), (6, .int (b2i sk0_1))]) hx hb dJ6_getChars_ba4f3_73 hl (k := 2) rfl (by rw [ex_9]; rfl) (by decide) rfl (fun ls hl => ?_)
        refine lv_iload hx hb dJ6_getChars_ba4f3_76 (lv_at hl 0 rfl) ?_
        refine va_gets hx hb hZ9o hS hown hf83 (fun _ h9 => h9) dJ6_getChars_ba4f3_78 ?_
        refine lv_iload_n hx hb dJ6_getChars_ba4f3_81 rfl (lv_at hl 1 rfl) ?_
        refine lv_ineg hx hb dJ6_getChars_ba4f3_82 ?_
        refine lv_topi (fun x_10 ex_10 => ?_)
        have hw := hw x_10 ex_10
        obtain ⟨hi_11, hw⟩ := hw
        refine va_tb hx hb hD9o hS (i := x_10) hi_11 (v := .int (dgO x_10.toNatClampNeg)) rfl dJ6_getChars_ba4f3_83 ?_
        refine lv_topi (fun x_12 ex_12 => ?_)
        have hw := hw x_12 ex_12
        obtain ⟨hi_13, hw⟩ := hw
        refine va_bast hx hb hK hP hD hS 0 2 rfl rfl hi_13 dJ6_getChars_ba4f3_84 (fun H_14 L_15 hP hD hS => ?_)
        have hP : va_P (dC, dI) vwCl [(a_v_, .inl (g 2, n_v_, .inl (upd v__8 x_9.toNatClampNeg (vp_nar .byte x_12))))] H_14 := hP
        have hD : va_D A [(a_v_, .inl (g 2, n_v_, .inl (upd v__8 x_9.toNatClampNeg (vp_nar .byte x_12))))] := hD
        refine lv_iload_n hx hb dJ6_getChars_ba4f3_85 rfl (lv_at hl 1 rfl) ?_
        refine lv_bipush (v := (-9)) hx hb dJ6_getChars_ba4f3_86 (by decide) ?_
        have JN104 : ∀ (v5_16 : Int32) (v__17 : Nat → Int32) (H : Heap) (locs : List Loc), (wj_J6_getChars_ba4f3_104 n_v_ Q sk0_1) v5_16 v__17 → va_P (dC, dI) vwCl [(a_v_, .inl (g 2, n_v_, .inl v__17))] H → va_D A [(a_v_, .inl (g 2, n_v_, .inl v__17))] → va_S A s.heap H locs → ∀ (ls : Array Slot), lv_has ls 7 [(2, .ref a_v_), (5, .int v5_16), (6, .int (b2i sk0_1))] → W p l e (headSpec wqJ6_getChars_ba4f3 ({ frames := 0, cells := 0, slots := 0, locals := 0 })).room s m ([.int i_, .int n_, .ref a_v_] : List Value).toArray below meth c H locs 0 0 QM (F0 m 104 ls []) := by
          intro v5_16 v__17 H locs hw hP hD hS ls hl
          refine lv_iload hx hb dJ6_getChars_ba4f3_104 (lv_at hl 2 rfl) ?_
          refine lv_if_eq (tgt := 118) hx hb dJ6_getChars_ba4f3_106 (by decide) (fun c_18 => ?_) (fun c_18 => ?_)
          · have hw := hw.1 (b2i_0 c_18)
            refine lv_iload hx hb dJ6_getChars_ba4f3_118 (lv_at hl 1 rfl) ?_
            refine W.widen (k := 0) (n := 0) (by omega) (by omega) ?_
            subst hQM
            exact W.iret (v := v5_16) hx hb hr (fun t ht hW => ⟨⟨v5_16, (v__17, ()), rfl, hw, ⟨P_at ht hP, hD⟩⟩, hS.F ht⟩) hS.2.2 dJ6_getChars_ba4f3_120
          · have hw := hw.2 (b2i_1 c_18)
            refine lv_aload_n hx hb dJ6_getChars_ba4f3_109 rfl (lv_at hl 0 rfl) ?_
            obtain ⟨x_19, ex_19⟩ : ∃ y : Int32, y = v5_16 + (-1) := ⟨_, rfl⟩
            have hw := hw x_19 ex_19
            refine lv_iinc (v := x_19) (lv' := [(5, .int x_19), (2, .ref a_v_), (6, .int (b2i sk0_1))]) hx hb dJ6_getChars_ba4f3_110 hl (k := 1) rfl (by rw [ex_19]; rfl) (by decide) rfl (fun ls hl => ?_)
            refine lv_iload hx hb dJ6_getChars_ba4f3_113 (lv_at hl 0 rfl) ?_
            refine lv_bipush (v := 45) hx hb dJ6_getChars_ba4f3_115 (by decide) ?_
            obtain ⟨hi_20, hw⟩ := hw
            refine va_bast hx hb hK hP hD hS 0 2 rfl rfl hi_20 dJ6_getChars_ba4f3_117 (fun H_21 L_22 hP hD hS => ?_)
            have hP : va_P (dC, dI) vwCl [(a_v_, .inl (g 2, n_v_, .inl (upd v__17 x_19.toNatClampNeg (vp_nar .byte 45))))] H_21 := hP
            have hD : va_D A [(a_v_, .inl (g 2, n_v_, .inl (upd v__17 x_19.toNatClampNeg (vp_nar .byte 45))))] := hD
            refine lv_iload hx hb dJ6_getChars_ba4f3_118 (lv_at hl 0 rfl) ?_
            refine W.widen (k := 0) (n := 0) (by omega) (by omega) ?_
            subst hQM
            exact W.iret (v := x_19) hx hb hr (fun t ht hW => ⟨⟨x_19, ((upd v__17 x_19.toNatClampNeg (vp_nar .byte 45)), ()), rfl, hw, ⟨P_at ht hP, hD⟩⟩, hS.F ht⟩) hS.2.2 dJ6_getChars_ba4f3_120
        refine lv_icmp_ge (tgt := 104) hx hb dJ6_getChars_ba4f3_88 (by decide) (fun c_23 => ?_) (fun c_23 => ?_)
        · have hw := hw.1 c_23
          refine W.widen (k := 0) (n := 0) (by omega) (by omega) ?_
          exact JN104 x_9 (upd v__8 x_9.toNatClampNeg (vp_nar .byte x_12)) _ _ hw hP hD hS _ (lv_sub hl [2, 0, 3] rfl)
        · have hw := hw.2 c_23
          refine lv_aload_n hx hb dJ6_getChars_ba4f3_91 rfl (lv_at hl 2 rfl) ?_
          obtain ⟨x_24, ex_24⟩ : ∃ y : Int32, y = x_9 + (-1) := ⟨_, rfl⟩
          have hw := hw x_24 ex_24
          refine lv_iinc (v := x_24) (lv' := [(5, .int x_24), (0, .int v0_7), (2, .ref a_v_), (6, .int (b2i sk0_1))]) hx hb dJ6_getChars_ba4f3_92 hl (k := 0) rfl (by rw [ex_24]; rfl) (by decide) rfl (fun ls hl => ?_)
          refine lv_iload hx hb dJ6_getChars_ba4f3_95 (lv_at hl 0 rfl) ?_
          refine va_gets hx hb hZ9t hS hown hf87 (fun _ h9 => h9) dJ6_getChars_ba4f3_97 ?_
          refine lv_iload_n hx hb dJ6_getChars_ba4f3_100 rfl (lv_at hl 1 rfl) ?_
          refine lv_ineg hx hb dJ6_getChars_ba4f3_101 ?_
          refine lv_topi (fun x_25 ex_25 => ?_)
          have hw := hw x_25 ex_25
          obtain ⟨hi_26, hw⟩ := hw
          refine va_tb hx hb hD9t hS (i := x_25) hi_26 (v := .int (dgT x_25.toNatClampNeg)) rfl dJ6_getChars_ba4f3_102 ?_
          refine lv_topi (fun x_27 ex_27 => ?_)
          have hw := hw x_27 ex_27
          obtain ⟨hi_28, hw⟩ := hw
          refine va_bast hx hb hK hP hD hS 0 2 rfl rfl hi_28 dJ6_getChars_ba4f3_103 (fun H_29 L_30 hP hD hS => ?_)
          have hP : va_P (dC, dI) vwCl [(a_v_, .inl (g 2, n_v_, .inl (upd (upd v__8 x_9.toNatClampNeg (vp_nar .byte x_12)) x_24.toNatClampNeg (vp_nar .byte x_27))))] H_29 := hP
          have hD : va_D A [(a_v_, .inl (g 2, n_v_, .inl (upd (upd v__8 x_9.toNatClampNeg (vp_nar .byte x_12)) x_24.toNatClampNeg (vp_nar .byte x_27))))] := hD
          refine W.widen (k := 0) (n := 0) (by omega) (by omega) ?_
          exact JN104 x_24 (upd (upd v__8 x_9.toNatClampNeg (vp_nar .byte x_12)) x_24.toNatClampNeg (vp_nar .byte x_27)) _ _ hw hP hD hS _ (lv_sub hl [2, 0, 3] rfl)
      have LOOP22 : ∀ (n22 : Nat) (v5_3 : Int32) (v0_4 : Int32) (v__5 : Nat → Int32) (H : Heap) (locs : List Loc), wl_J6_getChars_ba4f3_22 n_v_ (wx_J6_getChars_ba4f3_22_72 n_v_ Q sk0_1) n22 v5_3 v0_4 v__5 → va_P (dC, dI) vwCl [(a_v_, .inl (g 2, n_v_, .inl v__5))] H → va_D A [(a_v_, .inl (g 2, n_v_, .inl v__5))] → va_S A s.heap H locs → ∀ (ls : Array Slot), lv_has ls 7 [(0, .int v0_4), (2, .ref a_v_), (5, .int v5_3), (6, .int (b2i sk0_1))] → W p l e (headSpec wqJ6_getChars_ba4f3 ({ frames := 0, cells := 0, slots := 0, locals := 0 })).room s m ([.int i_, .int n_, .ref a_v_] : List Value).toArray below meth c H locs 0 0 QM (F0 m 22 ls []) := by
        intro n22
        induction n22 with
        | zero =>
          intro v5_3 v0_4 v__5 H locs hw hP hD hS ls hl
          exact False.elim hw
        | succ n22 ih22 =>
          intro v5_3 v0_4 v__5 H locs hw hP hD hS ls hl
          rw [wl_J6_getChars_ba4f3_22_s] at hw
          refine lv_iload_n hx hb dJ6_getChars_ba4f3_22 rfl (lv_at hl 0 rfl) ?_
          refine lv_bipush (v := (-100)) hx hb dJ6_getChars_ba4f3_23 (by decide) ?_
          refine lv_icmp_gt (tgt := 72) hx hb dJ6_getChars_ba4f3_25 (by decide) (fun c_31 => ?_) (fun c_31 => ?_)
          · have hw := hw.1 c_31
            refine W.widen (k := 0) (n := 0) (by omega) (by omega) ?_
            exact EX22_72 v5_3 v0_4 v__5 _ _ hw hP hD hS _ (lv_sub hl [0, 1, 2, 3] rfl)
          · have hw := hw.2 c_31
            refine lv_iload_n hx hb dJ6_getChars_ba4f3_28 rfl (lv_at hl 0 rfl) ?_
            refine lv_bipush (v := 100) hx hb dJ6_getChars_ba4f3_29 (by decide) ?_
            refine lv_idiv hx hb dJ6_getChars_ba4f3_31 (by decide) ?_
            refine lv_topi (fun x_32 ex_32 => ?_)
            have hw := hw x_32 ex_32
            refine lv_istore_n (lv' := [(3, .int x_32), (0, .int v0_4), (2, .ref a_v_), (5, .int v5_3), (6, .int (b2i sk0_1))]) hx hb dJ6_getChars_ba4f3_32 rfl hl (by decide) rfl (fun ls hl => ?_)
            refine lv_iload_n hx hb dJ6_getChars_ba4f3_33 rfl (lv_at hl 0 rfl) ?_
            refine lv_bipush (v := 100) hx hb dJ6_getChars_ba4f3_34 (by decide) ?_
            refine lv_imul hx hb dJ6_getChars_ba4f3_36 ?_
            refine lv_topi (fun x_33 ex_33 => ?_)
            have hw := hw x_33 ex_33
            refine lv_iload_n hx hb dJ6_getChars_ba4f3_37 rfl (lv_at hl 1 rfl) ?_
            refine lv_isub hx hb dJ6_getChars_ba4f3_38 ?_
            refine lv_topi (fun x_34 ex_34 => ?_)
            have hw := hw x_34 ex_34
            refine lv_istore (lv' := [(4, .int x_34), (3, .int x_32), (0, .int v0_4), (2, .ref a_v_), (5, .int v5_3), (6, .int (b2i sk0_1))]) hx hb dJ6_getChars_ba4f3_39 hl (by decide) rfl (fun ls hl => ?_)
            refine lv_iload_n hx hb dJ6_getChars_ba4f3_41 rfl (lv_at hl 1 rfl) ?_
            refine lv_istore_n (lv' := [(0, .int x_32), (4, .int x_34), (3, .int x_32), (2, .ref a_v_), (5, .int v5_3), (6, .int (b2i sk0_1))]) hx hb dJ6_getChars_ba4f3_42 rfl hl (by decide) rfl (fun ls hl => ?_)
            refine lv_aload_n hx hb dJ6_getChars_ba4f3_43 rfl (lv_at hl 3 rfl) ?_
            obtain ⟨x_35, ex_35⟩ : ∃ y : Int32, y = v5_3 + (-1) := ⟨_, rfl⟩
            have hw := hw x_35 ex_35
            refine lv_iinc (v := x_35) (lv' := [(5, .int x_35), (0, .int x_32), (4, .int x_34), (3, .int x_32), (2, .ref a_v_), (6, .int (b2i sk0_1))]) hx hb dJ6_getChars_ba4f3_44 hl (k := 4) rfl (by rw [ex_35]; rfl) (by decide) rfl (fun ls hl => ?_)
            refine lv_iload hx hb dJ6_getChars_ba4f3_47 (lv_at hl 0 rfl) ?_
            refine va_gets hx hb hZ9o hS hown hf83 (fun _ h9 => h9) dJ6_getChars_ba4f3_49 ?_
            refine lv_iload hx hb dJ6_getChars_ba4f3_52 (lv_at hl 2 rfl) ?_
            obtain ⟨hi_36, hw⟩ := hw
            refine va_tb hx hb hD9o hS (i := x_34) hi_36 (v := .int (dgO x_34.toNatClampNeg)) rfl dJ6_getChars_ba4f3_54 ?_
            refine lv_topi (fun x_37 ex_37 => ?_)
            have hw := hw x_37 ex_37
            obtain ⟨hi_38, hw⟩ := hw
            refine va_bast hx hb hK hP hD hS 0 2 rfl rfl hi_38 dJ6_getChars_ba4f3_55 (fun H_39 L_40 hP hD hS => ?_)
            have hP : va_P (dC, dI) vwCl [(a_v_, .inl (g 2, n_v_, .inl (upd v__5 x_35.toNatClampNeg (vp_nar .byte x_37))))] H_39 := hP
            have hD : va_D A [(a_v_, .inl (g 2, n_v_, .inl (upd v__5 x_35.toNatClampNeg (vp_nar .byte x_37))))] := hD
            refine lv_aload_n hx hb dJ6_getChars_ba4f3_56 rfl (lv_at hl 4 rfl) ?_
            obtain ⟨x_41, ex_41⟩ : ∃ y : Int32, y = x_35 + (-1) := ⟨_, rfl⟩
            have hw := hw x_41 ex_41
            refine lv_iinc (v := x_41) (lv' := [(5, .int x_41), (0, .int x_32), (4, .int x_34), (3, .int x_32), (2, .ref a_v_), (6, .int (b2i sk0_1))]) hx hb dJ6_getChars_ba4f3_57 hl (k := 0) rfl (by rw [ex_41]; rfl) (by decide) rfl (fun ls hl => ?_)
            refine lv_iload hx hb dJ6_getChars_ba4f3_60 (lv_at hl 0 rfl) ?_
            refine va_gets hx hb hZ9t hS hown hf87 (fun _ h9 => h9) dJ6_getChars_ba4f3_62 ?_
            refine lv_iload hx hb dJ6_getChars_ba4f3_65 (lv_at hl 2 rfl) ?_
            obtain ⟨hi_42, hw⟩ := hw
            refine va_tb hx hb hD9t hS (i := x_34) hi_42 (v := .int (dgT x_34.toNatClampNeg)) rfl dJ6_getChars_ba4f3_67 ?_
            refine lv_topi (fun x_43 ex_43 => ?_)
            have hw := hw x_43 ex_43
            obtain ⟨hi_44, hw⟩ := hw
            refine va_bast hx hb hK hP hD hS 0 2 rfl rfl hi_44 dJ6_getChars_ba4f3_68 (fun H_45 L_46 hP hD hS => ?_)
            have hP : va_P (dC, dI) vwCl [(a_v_, .inl (g 2, n_v_, .inl (upd (upd v__5 x_35.toNatClampNeg (vp_nar .byte x_37)) x_41.toNatClampNeg (vp_nar .byte x_43))))] H_45 := hP
            have hD : va_D A [(a_v_, .inl (g 2, n_v_, .inl (upd (upd v__5 x_35.toNatClampNeg (vp_nar .byte x_37)) x_41.toNatClampNeg (vp_nar .byte x_43))))] := hD
            refine lv_goto (tgt := 22) hx hb dJ6_getChars_ba4f3_69 (by decide) ?_
            refine W.widen (k := 0) (n := 0) (by omega) (by omega) ?_
            exact ih22 x_41 x_32 (upd (upd v__5 x_35.toNatClampNeg (vp_nar .byte x_37)) x_41.toNatClampNeg (vp_nar .byte x_43)) _ _ hw hP hD hS _ (lv_sub hl [1, 4, 0, 5] rfl)
      obtain ⟨n22, hw⟩ := hw
      refine W.widen (k := 0) (n := 0) (by omega) (by omega) ?_
      exact LOOP22 n22 n_ v0_2 v_ _ _ hw hP hD hS _ (lv_sub hl [0, 1, 2, 3] rfl)
    refine lv_if_ne (tgt := 22) hx hb dJ6_getChars_ba4f3_16 (by decide) (fun c_47 => ?_) (fun c_47 => ?_)
    · have hw := hw.2 (b2i_1 c_47)
      refine W.widen (k := 0) (n := 0) (by omega) (by omega) ?_
      exact JN22 i_ _ _ hw hP hD hS _ (lv_sub hl [1, 2, 3, 0] rfl)
    · have hw := hw.1 (b2i_0 c_47)
      refine lv_iload_n hx hb dJ6_getChars_ba4f3_19 rfl (lv_at hl 1 rfl) ?_
      refine lv_ineg hx hb dJ6_getChars_ba4f3_20 ?_
      refine lv_topi (fun x_48 ex_48 => ?_)
      have hw := hw x_48 ex_48
      refine lv_istore_n (lv' := [(0, .int x_48), (6, .int (b2i sk0_1)), (2, .ref a_v_), (5, .int n_)]) hx hb dJ6_getChars_ba4f3_21 rfl hl (by decide) rfl (fun ls hl => ?_)
      refine W.widen (k := 0) (n := 0) (by omega) (by omega) ?_
      exact JN22 x_48 _ _ hw hP hD hS _ (lv_sub hl [0, 2, 3, 1] rfl)
  refine lv_if_ge (tgt := 11) hx hb dJ6_getChars_ba4f3_4 (by decide) (fun c_49 => ?_) (fun c_49 => ?_)
  · have hw := hw.1 c_49
    refine lv_iconst (v := 0) hx hb dJ6_getChars_ba4f3_11 (by decide) ?_
    refine W.widen (k := 0) (n := 0) (by omega) (by omega) ?_
    exact JN12 false _ _ hw hP hD hS _ (lv_sub hl [1, 3, 0] rfl)
  · have hw := hw.2 c_49
    refine lv_iconst (v := 1) hx hb dJ6_getChars_ba4f3_7 (by decide) ?_
    refine lv_goto (tgt := 12) hx hb dJ6_getChars_ba4f3_8 (by decide) ?_
    refine W.widen (k := 0) (n := 0) (by omega) (by omega) ?_
    exact JN12 true _ _ hw hP hD hS _ (lv_sub hl [1, 3, 0] rfl)
theorem dJ5_append_c97b9_0 : decode cJ5_append_c97b9 0 = .ok (.aload_n 0, 1) := by decide +kernel
theorem dJ5_append_c97b9_1 : decode cJ5_append_c97b9 1 = .ok (.getfield 79, 3) := by decide +kernel
theorem dJ5_append_c97b9_4 : decode cJ5_append_c97b9 4 = .ok (.istore_n 2, 1) := by decide +kernel
theorem dJ5_append_c97b9_5 : decode cJ5_append_c97b9 5 = .ok (.iload_n 2, 1) := by decide +kernel
theorem dJ5_append_c97b9_6 : decode cJ5_append_c97b9 6 = .ok (.iload_n 1, 1) := by decide +kernel
theorem dJ5_append_c97b9_7 : decode cJ5_append_c97b9 7 = .ok (.invokestatic 245, 3) := by decide +kernel
theorem dJ5_append_c97b9_10 : decode cJ5_append_c97b9 10 = .ok (.iadd, 1) := by decide +kernel
theorem dJ5_append_c97b9_11 : decode cJ5_append_c97b9 11 = .ok (.istore_n 3, 1) := by decide +kernel
theorem dJ5_append_c97b9_12 : decode cJ5_append_c97b9 12 = .ok (.aload_n 0, 1) := by decide +kernel
theorem dJ5_append_c97b9_13 : decode cJ5_append_c97b9 13 = .ok (.iload_n 3, 1) := by decide +kernel
theorem dJ5_append_c97b9_14 : decode cJ5_append_c97b9 14 = .ok (.invokevirtual 100, 3) := by decide +kernel
theorem dJ5_append_c97b9_17 : decode cJ5_append_c97b9 17 = .ok (.aload_n 0, 1) := by decide +kernel
theorem dJ5_append_c97b9_18 : decode cJ5_append_c97b9 18 = .ok (.invokevirtual 83, 3) := by decide +kernel
theorem dJ5_append_c97b9_48 : decode cJ5_append_c97b9 48 = .ok (.aload_n 0, 1) := by decide +kernel
theorem dJ5_append_c97b9_49 : decode cJ5_append_c97b9 49 = .ok (.iload_n 3, 1) := by decide +kernel
theorem dJ5_append_c97b9_50 : decode cJ5_append_c97b9 50 = .ok (.putfield 79, 3) := by decide +kernel
theorem dJ5_append_c97b9_53 : decode cJ5_append_c97b9 53 = .ok (.aload_n 0, 1) := by decide +kernel
theorem dJ5_append_c97b9_54 : decode cJ5_append_c97b9 54 = .ok (.areturn, 1) := by decide +kernel
theorem dJ5_append_c97b9_21 : decode cJ5_append_c97b9 21 = .ok (.ifCond .eq 16, 3) := by decide +kernel
theorem dJ5_append_c97b9_24 : decode cJ5_append_c97b9 24 = .ok (.iload_n 1, 1) := by decide +kernel
theorem dJ5_append_c97b9_25 : decode cJ5_append_c97b9 25 = .ok (.iload_n 3, 1) := by decide +kernel
theorem dJ5_append_c97b9_26 : decode cJ5_append_c97b9 26 = .ok (.aload_n 0, 1) := by decide +kernel
theorem dJ5_append_c97b9_27 : decode cJ5_append_c97b9 27 = .ok (.getfield 15, 3) := by decide +kernel
theorem dJ5_append_c97b9_30 : decode cJ5_append_c97b9 30 = .ok (.invokestatic 248, 3) := by decide +kernel
theorem dJ5_append_c97b9_33 : decode cJ5_append_c97b9 33 = .ok (.pop, 1) := by decide +kernel
theorem dJ5_append_c97b9_34 : decode cJ5_append_c97b9 34 = .ok (.goto 14, 3) := by decide +kernel

set_option maxHeartbeats 8000000 in
set_option maxRecDepth 100000 in
theorem c_J5_append_c97b9 (l : Launch) (dC : Nat → ClassId) (dI : Nat → Nat → Nat) (g : Nat → ClassId) (a_this_ v_this_ c_this_ : Nat) (f_this_ : Nat → Int32) (k_this_ : Int32) (i_ : Int32) (Q : Nat → (Nat → Int32) → Int32 → Prop) (hw : wp_J5_append_c97b9 c_this_ f_this_ k_this_ i_ Q) (sz : Nat) : Met l yJ5_append_c97b9 wqJ5_append_c97b9 ({ frames := 4, cells := 1, slots := 2000, locals := 104 }) (va_Pc [.ref a_this_, .int i_] (PG (dC, dI) g [(a_this_, .inr (1, [.ref v_this_, .int 0, .int 0, .int k_this_])), (v_this_, .inl (g 2, c_this_, .inl f_this_))] sz)) (va_Qq (fun (r : Option Nat) (u : Nat × Nat × (Nat → Int32) × Int32 × Unit) => r = some a_this_ ∧ (Q u.2.1 u.2.2.1 u.2.2.2.1)) (fun (u : Nat × Nat × (Nat → Int32) × Int32 × Unit) t9 => va_P (dC, dI) vwCl [(a_this_, .inr (1, [.ref u.1, .int 0, .int 0, .int u.2.2.2.1])), (u.1, .inl (g 2, u.2.1, .inl u.2.2.1))] t9.heap ∧ va_D (va_A [(a_this_, .inr (1, [.ref v_this_, .int 0, .int 0, .int k_this_])), (v_this_, .inl (g 2, c_this_, .inl f_this_))] sz) [(a_this_, .inr (1, [.ref u.1, .int 0, .int 0, .int u.2.2.2.1])), (u.1, .inl (g 2, u.2.1, .inl u.2.2.1))]) (va_A [(a_this_, .inr (1, [.ref v_this_, .int 0, .int 0, .int k_this_])), (v_this_, .inl (g 2, c_this_, .inl f_this_))] sz)) 1 2000 (va_A [(a_this_, .inr (1, [.ref v_this_, .int 0, .int 0, .int k_this_])), (v_this_, .inl (g 2, c_this_, .inl f_this_))] sz) := by
  refine Met.ofW (cc := cJ5_append_c97b9) (maxL := 4) (ret := (some (.object "java/lang/AbstractStringBuilder"))) (by decide) rfl ?_
  intro p e s m args below meth c s₁ B hml hv
  obtain ⟨rfl, hsz, hP, hK, hD0, hG⟩ := hv
  have hx := B.exec
  have hb := B.bytes
  have hr := B.returns
  have hts := atoms_spec (ws := wqJ5_append_c97b9) B.pre
  have hown : s.vm.findClass RJ5 = some m.cls := findClass_of_methodNamed B.named
  have hlocks := B.notSynchronized
  subst hsz
  have hD := hD0.self (sz := s.heap.size)
  generalize hAe : va_A [(a_this_, .inr (1, [.ref v_this_, .int 0, .int 0, .int k_this_])), (v_this_, .inl (g 2, c_this_, .inl f_this_))] s.heap.size = A at hD hG ⊢
  have hA : ∀ q : Nat, s.heap.size ≤ q → A q := fun q h => by rw [← hAe]; exact Or.inr h
  have hS : va_S A s.heap s.heap [] := va_S.rf
  have hrc : (headSpec wqJ5_append_c97b9 ({ frames := 4, cells := 1, slots := 2000, locals := 104 })).room.cells = 1 := rfl
  have hrs : (headSpec wqJ5_append_c97b9 ({ frames := 4, cells := 1, slots := 2000, locals := 104 })).room.slots = 2000 := rfl
  have hl := lv_entry ([.ref a_this_, .int i_]) (n := 4) (Nat.le_of_ble_eq_true rfl)
  rw [lg_entry_eq]
  generalize (lg_sl ([.ref a_this_, .int i_]) ++ List.replicate (4 - (lg_sl ([.ref a_this_, .int i_])).length) Slot.unset).toArray = ls at hl ⊢
  have hl : lv_has ls 4 [(0, .ref a_this_), (1, .int i_)] := hl
  unfold wp_J5_append_c97b9 at hw
  have hf79 := hts (Cond.fieldLink RJ5 79 "java/lang/AbstractStringBuilder" "count" "I") (aw_l aw_6_236)
  have hiJ4 : ∀ w ∈ u_ws RJ4 TJ4 4, w ∈ wqJ5_append_c97b9 := fun w h => aw_l (aw_wsJ40 w h)
  have hf15 := hts (Cond.fieldLink RJ5 15 "java/lang/AbstractStringBuilder" "value" "[B") (aw_l aw_6_233)
  refine lv_aload_n hx hb dJ5_append_c97b9_0 rfl (lv_at hl 0 rfl) ?_
  refine va_get (D := (dC, dI)) (ci := 1) (v := .int k_this_) (C := RJ4) (T := TJ4) (N := 4) hx hb hts hiJ4 hown hK hP 0 rfl rfl 3 (by decide) hf79 (fun _ h9 => h9) rfl dJ5_append_c97b9_1 ?_
  refine lv_istore_n (lv' := [(2, .int k_this_), (0, .ref a_this_), (1, .int i_)]) hx hb dJ5_append_c97b9_4 rfl hl (by decide) rfl (fun ls hl => ?_)
  refine lv_iload_n hx hb dJ5_append_c97b9_5 rfl (lv_at hl 0 rfl) ?_
  refine lv_iload_n hx hb dJ5_append_c97b9_6 rfl (lv_at hl 2 rfl) ?_
  have hPs : va_P (dC, dI) vwCl (wcat [[(a_this_, .inr (1, [.ref v_this_, .int 0, .int 0, .int k_this_]))], [(v_this_, .inl (g 2, c_this_, .inl f_this_))]] ++ wcat []) s.heap := by rw [show wcat [] = [] from rfl, List.append_nil]; exact hP
  have hDs : va_D A (wcat [[(a_this_, .inr (1, [.ref v_this_, .int 0, .int 0, .int k_this_]))], [(v_this_, .inl (g 2, c_this_, .inl f_this_))]] ++ wcat []) := by rw [show wcat [] = [] from rfl, List.append_nil]; exact hD
  have hPc : va_P (dC, dI) vwCl [] s.heap := P_r hPs
  have hDc : va_D A [] := D_r hDs
  have hFc : ∀ q, va_A [] s.heap.size q → A q := A_all hDc hA hS.1
  refine va_calli (va_runS (As := [.int i_]) (rest := [.int k_this_]) ⟨hx, hb, hml, hown, hts⟩ (c_J6_stringSize_0f7a4 l dC dI g (x_ := i_) (hw := hw) (sz := s.heap.size)) (va_cwS 1 hts (gqS aw_7_28 aw_7_29 aw_1_31 aw_7_30) rfl rfl rfl (by decide +kernel) ⟨Nat.le_of_ble_eq_true rfl, Nat.le_of_ble_eq_true rfl⟩) ⟨PG_blind, PG_call hK hG hS hPc hDc hFc⟩ rfl rfl hl.1 rfl (lv_room (Nat.le_of_ble_eq_true rfl)) dJ5_append_c97b9_7 ⟨by rw [hrc]; omega, by rw [hrs]; omega⟩) hS (fun q _ h => hFc q h) hFc (fun r_2 u_2 t_2 H_2 L_2 ht_2 hvm_2 hw_2 hB_2 hz_2 hk_2 hS => ?_)
  have hw := hw_2
  rw [ht_2] at hB_2
  obtain ⟨hP1, hD1⟩ := hB_2
  obtain ⟨hP, hD⟩ := join_r hPs hDs hk_2 hFc hP1 hD1
  rw [List.append_nil] at hP hD
  have hP : va_P (dC, dI) vwCl [(a_this_, .inr (1, [.ref v_this_, .int 0, .int 0, .int k_this_])), (v_this_, .inl (g 2, c_this_, .inl f_this_))] H_2 := hP
  have hD : va_D A [(a_this_, .inr (1, [.ref v_this_, .int 0, .int 0, .int k_this_])), (v_this_, .inl (g 2, c_this_, .inl f_this_))] := hD
  refine W.widen (k := 0) (n := 0) (by omega) (by omega) ?_
  refine lv_iadd hx hb dJ5_append_c97b9_10 ?_
  refine lv_topi (fun x_3 ex_3 => ?_)
  have hw := hw x_3 ex_3
  refine lv_istore_n (lv' := [(3, .int x_3), (2, .int k_this_), (0, .ref a_this_), (1, .int i_)]) hx hb dJ5_append_c97b9_11 rfl hl (by decide) rfl (fun ls hl => ?_)
  refine lv_aload_n hx hb dJ5_append_c97b9_12 rfl (lv_at hl 2 rfl) ?_
  refine lv_iload_n hx hb dJ5_append_c97b9_13 rfl (lv_at hl 0 rfl) ?_
  obtain ⟨hPs, hDs⟩ := seg_call (segs := [[(a_this_, .inr (1, [.ref v_this_, .int 0, .int 0, .int k_this_]))], [(v_this_, .inl (g 2, c_this_, .inl f_this_))]]) [] [[(a_this_, .inr (1, [.ref v_this_, .int 0, .int 0, .int k_this_]))], [(v_this_, .inl (g 2, c_this_, .inl f_this_))]] 2 [0, 1] rfl rfl (by decide) hP hD
  have hPc : va_P (dC, dI) vwCl [(a_this_, .inr (1, [.ref v_this_, .int 0, .int 0, .int k_this_])), (v_this_, .inl (g 2, c_this_, .inl f_this_))] H_2 := P_r hPs
  have hDc : va_D A [(a_this_, .inr (1, [.ref v_this_, .int 0, .int 0, .int k_this_])), (v_this_, .inl (g 2, c_this_, .inl f_this_))] := D_r hDs
  have hFc : ∀ q, va_A [(a_this_, .inr (1, [.ref v_this_, .int 0, .int 0, .int k_this_])), (v_this_, .inl (g 2, c_this_, .inl f_this_))] H_2.size q → A q := A_all hDc hA hS.1
  refine va_callv (va_runU (As := [.int x_3]) (rest := []) ⟨hx, hb, hml, hown, hts⟩ (c_J5_ensureCapacityInternal_d00df l dC dI g (a_this_ := a_this_) (v_this_ := v_this_) (c_this_ := c_this_) (f_this_ := f_this_) (k_this_ := k_this_) (n_ := x_3) (hw := hw) (sz := H_2.size)) (va_cwU 1 hts (gqU aw_6_149 aw_7_217 aw_9_1 aw_6_151 aw_1_25 aw_6_152) rfl rfl rfl rfl (by decide +kernel) ⟨Nat.le_of_ble_eq_true rfl, Nat.le_of_ble_eq_true rfl⟩) ⟨PG_blind, va_recv hK hP (ci := 1) (q0 := 0) rfl rfl, PG_call hK hG hS hPc hDc hFc⟩ rfl rfl hl.1 rfl (lv_room (Nat.le_of_ble_eq_true rfl)) dJ5_append_c97b9_14 ⟨by rw [hrc]; omega, by rw [hrs]; omega⟩) hS (fun q _ h => hFc q h) hFc (fun u_5 t_5 H_5 L_5 ht_5 hvm_5 hw_5 hB_5 hz_5 hk_5 hS => ?_)
  obtain ⟨v_6, c_7, f_8, k_9, u_5⟩ := u_5
  have hw := hw_5
  rw [ht_5] at hB_5
  obtain ⟨hP1, hD1⟩ := hB_5
  obtain ⟨hP, hD⟩ := join_r hPs hDs hk_5 hFc hP1 hD1
  obtain ⟨hP, hD⟩ := seg_join [] [[(a_this_, .inr (1, [.ref v_6, .int 0, .int 0, .int k_9]))], [(v_6, .inl (g 2, c_7, .inl f_8))]] [[(a_this_, .inr (1, [.ref v_6, .int 0, .int 0, .int k_9]))], [(v_6, .inl (g 2, c_7, .inl f_8))]] 2 [0, 1] rfl rfl (by decide) hP hD
  have hP : va_P (dC, dI) vwCl [(a_this_, .inr (1, [.ref v_6, .int 0, .int 0, .int k_9])), (v_6, .inl (g 2, c_7, .inl f_8))] H_5 := hP
  have hD : va_D A [(a_this_, .inr (1, [.ref v_6, .int 0, .int 0, .int k_9])), (v_6, .inl (g 2, c_7, .inl f_8))] := hD
  refine W.widen (k := 1) (n := 2000) (by omega) (by omega) ?_
  refine lv_aload_n hx hb dJ5_append_c97b9_17 rfl (lv_at hl 2 rfl) ?_
  obtain ⟨hPs, hDs⟩ := seg_call (segs := [[(a_this_, .inr (1, [.ref v_6, .int 0, .int 0, .int k_9]))], [(v_6, .inl (g 2, c_7, .inl f_8))]]) [] [[(a_this_, .inr (1, [.ref v_6, .int 0, .int 0, .int k_9]))], [(v_6, .inl (g 2, c_7, .inl f_8))]] 2 [0, 1] rfl rfl (by decide) hP hD
  have hPc : va_P (dC, dI) vwCl [(a_this_, .inr (1, [.ref v_6, .int 0, .int 0, .int k_9])), (v_6, .inl (g 2, c_7, .inl f_8))] H_5 := P_r hPs
  have hDc : va_D A [(a_this_, .inr (1, [.ref v_6, .int 0, .int 0, .int k_9])), (v_6, .inl (g 2, c_7, .inl f_8))] := D_r hDs
  have hFc : ∀ q, va_A [(a_this_, .inr (1, [.ref v_6, .int 0, .int 0, .int k_9])), (v_6, .inl (g 2, c_7, .inl f_8))] H_5.size q → A q := A_all hDc hA hS.1
  refine va_calli (va_runU (As := []) (rest := []) ⟨hx, hb, hml, hown, hts⟩ (c_J5_isLatin1_aae02 l dC dI g (a_this_ := a_this_) (v_this_ := v_6) (c_this_ := c_7) (f_this_ := f_8) (k_this_ := k_9) (hw := hw) (sz := H_5.size)) (va_cwU 0 hts (gqU aw_6_179 aw_6_181 aw_6_182 aw_6_180 aw_1_25 aw_6_183) rfl rfl rfl rfl (by decide +kernel) ⟨Nat.le_of_ble_eq_true rfl, Nat.le_of_ble_eq_true rfl⟩) ⟨PG_blind, va_recv hK hP (ci := 1) (q0 := 0) rfl rfl, PG_call hK hG hS hPc hDc hFc⟩ rfl rfl hl.1 rfl (lv_room (Nat.le_of_ble_eq_true rfl)) dJ5_append_c97b9_18 ⟨by rw [hrc]; omega, by rw [hrs]; omega⟩) hS (fun q _ h => hFc q h) hFc (fun r_11 u_11 t_11 H_11 L_11 ht_11 hvm_11 hw_11 hB_11 hz_11 hk_11 hS => ?_)
  obtain ⟨b_11, rfl, hw⟩ := hw_11
  obtain ⟨rfl, hw⟩ := hw
  rw [ht_11] at hB_11
  obtain ⟨hP1, hD1⟩ := hB_11
  obtain ⟨hP, hD⟩ := join_r hPs hDs hk_11 hFc hP1 hD1
  obtain ⟨hP, hD⟩ := seg_join [] [[(a_this_, .inr (1, [.ref v_6, .int 0, .int 0, .int k_9]))], [(v_6, .inl (g 2, c_7, .inl f_8))]] [[(a_this_, .inr (1, [.ref v_6, .int 0, .int 0, .int k_9]))], [(v_6, .inl (g 2, c_7, .inl f_8))]] 2 [0, 1] rfl rfl (by decide) hP hD
  have hP : va_P (dC, dI) vwCl [(a_this_, .inr (1, [.ref v_6, .int 0, .int 0, .int k_9])), (v_6, .inl (g 2, c_7, .inl f_8))] H_11 := hP
  have hD : va_D A [(a_this_, .inr (1, [.ref v_6, .int 0, .int 0, .int k_9])), (v_6, .inl (g 2, c_7, .inl f_8))] := hD
  refine W.eq (g2 := F0 m 21 ls [.int 1]) rfl ?_
  refine W.widen (k := 1) (n := 2000) (by omega) (by omega) ?_
  refine W_abs (fun QM hQM => ?_)
  have JN48 : ∀ (f_12 : Nat → Int32) (H : Heap) (locs : List Loc), (wj_J5_append_c97b9_48 Q x_3 c_7) f_12 → va_P (dC, dI) vwCl [(a_this_, .inr (1, [.ref v_6, .int 0, .int 0, .int k_9])), (v_6, .inl (g 2, c_7, .inl f_12))] H → va_D A [(a_this_, .inr (1, [.ref v_6, .int 0, .int 0, .int k_9])), (v_6, .inl (g 2, c_7, .inl f_12))] → va_S A s.heap H locs → ∀ (ls : Array Slot), lv_has ls 4 [(0, .ref a_this_), (3, .int x_3)] → W p l e (headSpec wqJ5_append_c97b9 ({ frames := 4, cells := 1, slots := 2000, locals := 104 })).room s m ([.ref a_this_, .int i_] : List Value).toArray below meth c H locs 1 2000 QM (F0 m 48 ls []) := by
    intro f_12 H locs hw hP hD hS ls hl
    refine lv_aload_n hx hb dJ5_append_c97b9_48 rfl (lv_at hl 0 rfl) ?_
    refine lv_iload_n hx hb dJ5_append_c97b9_49 rfl (lv_at hl 1 rfl) ?_
    refine va_put (D := (dC, dI)) (ci := 1) (v := .int x_3) (ty := .int) (C := RJ4) (T := TJ4) (N := 4) hx hb hts hiJ4 tyJ4 tyJ4_ok nmJ4 hown hK hP hD hS 0 rfl rfl 3 (by decide) hf79 (fun _ h9 => h9) rfl (by decide +kernel) rfl rfl (Nat.le_of_ble_eq_true rfl) dJ5_append_c97b9_50 (fun H_13 L_14 hP hD hS => ?_)
    have hP : va_P (dC, dI) vwCl [(a_this_, .inr (1, [.ref v_6, .int 0, .int 0, .int x_3])), (v_6, .inl (g 2, c_7, .inl f_12))] H_13 := hP
    have hD : va_D A [(a_this_, .inr (1, [.ref v_6, .int 0, .int 0, .int x_3])), (v_6, .inl (g 2, c_7, .inl f_12))] := hD
    refine lv_aload_n hx hb dJ5_append_c97b9_53 rfl (lv_at hl 0 rfl) ?_
    refine W.widen (k := 1) (n := 2000) (by omega) (by omega) ?_
    subst hQM
    exact W.aret (v := .ref a_this_) hx hb hr (Or.inl ⟨_, rfl⟩) (Or.inr ⟨_, rfl⟩) (fun t ht hW => ⟨⟨some a_this_, (v_6, c_7, f_12, x_3, ()), rfl, ⟨rfl, hw⟩, ⟨P_at ht hP, hD⟩⟩, hS.F ht⟩) hS.2.2 dJ5_append_c97b9_54
  refine lv_if_eq (tgt := 37) hx hb dJ5_append_c97b9_21 (by decide) (fun c_15 => absurd c_15 (by decide)) (fun _ => ?_)
  refine lv_iload_n hx hb dJ5_append_c97b9_24 rfl (lv_at hl 3 rfl) ?_
  refine lv_iload_n hx hb dJ5_append_c97b9_25 rfl (lv_at hl 0 rfl) ?_
  refine lv_aload_n hx hb dJ5_append_c97b9_26 rfl (lv_at hl 2 rfl) ?_
  refine va_get (D := (dC, dI)) (ci := 1) (v := .ref v_6) (C := RJ4) (T := TJ4) (N := 4) hx hb hts hiJ4 hown hK hP 0 rfl rfl 0 (by decide) hf15 (fun _ h9 => h9) rfl dJ5_append_c97b9_27 ?_
  obtain ⟨hPs, hDs⟩ := seg_call (segs := [[(a_this_, .inr (1, [.ref v_6, .int 0, .int 0, .int k_9]))], [(v_6, .inl (g 2, c_7, .inl f_8))]]) [[(a_this_, .inr (1, [.ref v_6, .int 0, .int 0, .int k_9]))]] [[(v_6, .inl (g 2, c_7, .inl f_8))]] 2 [0, 1] rfl rfl (by decide) hP hD
  have hPc : va_P (dC, dI) vwCl [(v_6, .inl (g 2, c_7, .inl f_8))] H_11 := P_r hPs
  have hDc : va_D A [(v_6, .inl (g 2, c_7, .inl f_8))] := D_r hDs
  have hFc : ∀ q, va_A [(v_6, .inl (g 2, c_7, .inl f_8))] H_11.size q → A q := A_all hDc hA hS.1
  refine va_calli (va_runS (As := [.int i_, .int x_3, .ref v_6]) (rest := []) ⟨hx, hb, hml, hown, hts⟩ (c_J6_getChars_ba4f3 l dC dI g (i_ := i_) (n_ := x_3) (a_v_ := v_6) (n_v_ := c_7) (v_ := f_8) (hw := hw) (sz := H_11.size)) (va_cwS 3 hts (gqS aw_7_31 aw_7_32 aw_1_31 aw_7_33) rfl rfl rfl (by decide +kernel) ⟨Nat.le_of_ble_eq_true rfl, Nat.le_of_ble_eq_true rfl⟩) ⟨PG_blind, PG_call hK hG hS hPc hDc hFc⟩ rfl rfl hl.1 rfl (lv_room (Nat.le_of_ble_eq_true rfl)) dJ5_append_c97b9_30 ⟨by rw [hrc]; omega, by rw [hrs]; omega⟩) hS (fun q _ h => hFc q h) hFc (fun r_17 u_17 t_17 H_17 L_17 ht_17 hvm_17 hw_17 hB_17 hz_17 hk_17 hS => ?_)
  obtain ⟨xv__18, u_17⟩ := u_17
  have hw := hw_17
  rw [ht_17] at hB_17
  obtain ⟨hP1, hD1⟩ := hB_17
  obtain ⟨hP, hD⟩ := join_r hPs hDs hk_17 hFc hP1 hD1
  obtain ⟨hP, hD⟩ := seg_join [[(a_this_, .inr (1, [.ref v_6, .int 0, .int 0, .int k_9]))]] [[(v_6, .inl (g 2, c_7, .inl xv__18))]] [[(a_this_, .inr (1, [.ref v_6, .int 0, .int 0, .int k_9]))], [(v_6, .inl (g 2, c_7, .inl xv__18))]] 2 [0, 1] rfl rfl (by decide) hP hD
  have hP : va_P (dC, dI) vwCl [(a_this_, .inr (1, [.ref v_6, .int 0, .int 0, .int k_9])), (v_6, .inl (g 2, c_7, .inl xv__18))] H_17 := hP
  have hD : va_D A [(a_this_, .inr (1, [.ref v_6, .int 0, .int 0, .int k_9])), (v_6, .inl (g 2, c_7, .inl xv__18))] := hD
  refine W.widen (k := 1) (n := 2000) (by omega) (by omega) ?_
  refine lv_pop hx hb dJ5_append_c97b9_33 rfl ?_
  refine lv_goto (tgt := 48) hx hb dJ5_append_c97b9_34 (by decide) ?_
  refine W.widen (k := 1) (n := 2000) (by omega) (by omega) ?_
  exact JN48 xv__18 _ _ hw hP hD hS _ (lv_sub hl [2, 0] rfl)
theorem dJ4_append_bf812_0 : decode cJ4_append_bf812 0 = .ok (.aload_n 0, 1) := by decide +kernel
theorem dJ4_append_bf812_1 : decode cJ4_append_bf812 1 = .ok (.iload_n 1, 1) := by decide +kernel
theorem dJ4_append_bf812_2 : decode cJ4_append_bf812 2 = .ok (.invokespecial 53, 3) := by decide +kernel
theorem dJ4_append_bf812_5 : decode cJ4_append_bf812 5 = .ok (.pop, 1) := by decide +kernel
theorem dJ4_append_bf812_6 : decode cJ4_append_bf812 6 = .ok (.aload_n 0, 1) := by decide +kernel
theorem dJ4_append_bf812_7 : decode cJ4_append_bf812 7 = .ok (.areturn, 1) := by decide +kernel

set_option maxHeartbeats 8000000 in
set_option maxRecDepth 100000 in
theorem c_J4_append_bf812 (l : Launch) (dC : Nat → ClassId) (dI : Nat → Nat → Nat) (g : Nat → ClassId) (a_this_ v_this_ c_this_ : Nat) (f_this_ : Nat → Int32) (k_this_ : Int32) (i_ : Int32) (Q : Nat → (Nat → Int32) → Int32 → Prop) (hw : wp_J4_append_bf812 c_this_ f_this_ k_this_ i_ Q) (sz : Nat) : Met l yJ4_append_bf812 wqJ4_append_bf812 ({ frames := 5, cells := 1, slots := 2000, locals := 127 }) (va_Pc [.ref a_this_, .int i_] (PG (dC, dI) g [(a_this_, .inr (1, [.ref v_this_, .int 0, .int 0, .int k_this_])), (v_this_, .inl (g 2, c_this_, .inl f_this_))] sz)) (va_Qq (fun (r : Option Nat) (u : Nat × Nat × (Nat → Int32) × Int32 × Unit) => r = some a_this_ ∧ (Q u.2.1 u.2.2.1 u.2.2.2.1)) (fun (u : Nat × Nat × (Nat → Int32) × Int32 × Unit) t9 => va_P (dC, dI) vwCl [(a_this_, .inr (1, [.ref u.1, .int 0, .int 0, .int u.2.2.2.1])), (u.1, .inl (g 2, u.2.1, .inl u.2.2.1))] t9.heap ∧ va_D (va_A [(a_this_, .inr (1, [.ref v_this_, .int 0, .int 0, .int k_this_])), (v_this_, .inl (g 2, c_this_, .inl f_this_))] sz) [(a_this_, .inr (1, [.ref u.1, .int 0, .int 0, .int u.2.2.2.1])), (u.1, .inl (g 2, u.2.1, .inl u.2.2.1))]) (va_A [(a_this_, .inr (1, [.ref v_this_, .int 0, .int 0, .int k_this_])), (v_this_, .inl (g 2, c_this_, .inl f_this_))] sz)) 1 2000 (va_A [(a_this_, .inr (1, [.ref v_this_, .int 0, .int 0, .int k_this_])), (v_this_, .inl (g 2, c_this_, .inl f_this_))] sz) := by
  refine Met.ofW (cc := cJ4_append_bf812) (maxL := 2) (ret := (some (.object "java/lang/StringBuilder"))) (by decide) rfl ?_
  intro p e s m args below meth c s₁ B hml hv
  obtain ⟨rfl, hsz, hP, hK, hD0, hG⟩ := hv
  have hx := B.exec
  have hb := B.bytes
  have hr := B.returns
  have hts := atoms_spec (ws := wqJ4_append_bf812) B.pre
  have hown : s.vm.findClass RJ4 = some m.cls := findClass_of_methodNamed B.named
  have hlocks := B.notSynchronized
  subst hsz
  have hD := hD0.self (sz := s.heap.size)
  generalize hAe : va_A [(a_this_, .inr (1, [.ref v_this_, .int 0, .int 0, .int k_this_])), (v_this_, .inl (g 2, c_this_, .inl f_this_))] s.heap.size = A at hD hG ⊢
  have hA : ∀ q : Nat, s.heap.size ≤ q → A q := fun q h => by rw [← hAe]; exact Or.inr h
  have hS : va_S A s.heap s.heap [] := va_S.rf
  have hrc : (headSpec wqJ4_append_bf812 ({ frames := 5, cells := 1, slots := 2000, locals := 127 })).room.cells = 1 := rfl
  have hrs : (headSpec wqJ4_append_bf812 ({ frames := 5, cells := 1, slots := 2000, locals := 127 })).room.slots = 2000 := rfl
  have hl := lv_entry ([.ref a_this_, .int i_]) (n := 2) (Nat.le_of_ble_eq_true rfl)
  rw [lg_entry_eq]
  generalize (lg_sl ([.ref a_this_, .int i_]) ++ List.replicate (2 - (lg_sl ([.ref a_this_, .int i_])).length) Slot.unset).toArray = ls at hl ⊢
  have hl : lv_has ls 2 [(0, .ref a_this_), (1, .int i_)] := hl
  unfold wp_J4_append_bf812 at hw
  refine lv_aload_n hx hb dJ4_append_bf812_0 rfl (lv_at hl 0 rfl) ?_
  refine lv_iload_n hx hb dJ4_append_bf812_1 rfl (lv_at hl 1 rfl) ?_
  obtain ⟨hPs, hDs⟩ := seg_call (segs := [[(a_this_, .inr (1, [.ref v_this_, .int 0, .int 0, .int k_this_]))], [(v_this_, .inl (g 2, c_this_, .inl f_this_))]]) [] [[(a_this_, .inr (1, [.ref v_this_, .int 0, .int 0, .int k_this_]))], [(v_this_, .inl (g 2, c_this_, .inl f_this_))]] 2 [0, 1] rfl rfl (by decide) hP hD
  have hPc : va_P (dC, dI) vwCl [(a_this_, .inr (1, [.ref v_this_, .int 0, .int 0, .int k_this_])), (v_this_, .inl (g 2, c_this_, .inl f_this_))] s.heap := P_r hPs
  have hDc : va_D A [(a_this_, .inr (1, [.ref v_this_, .int 0, .int 0, .int k_this_])), (v_this_, .inl (g 2, c_this_, .inl f_this_))] := D_r hDs
  have hFc : ∀ q, va_A [(a_this_, .inr (1, [.ref v_this_, .int 0, .int 0, .int k_this_])), (v_this_, .inl (g 2, c_this_, .inl f_this_))] s.heap.size q → A q := A_all hDc hA hS.1
  refine va_callq (va_runSU (As := [.int i_]) (rest := []) (hK.1 1 _ rfl).2 ⟨hx, hb, hml, hown, hts⟩ (c_J5_append_c97b9 l dC dI g (a_this_ := a_this_) (v_this_ := v_this_) (c_this_ := c_this_) (f_this_ := f_this_) (k_this_ := k_this_) (i_ := i_) (hw := hw) (sz := s.heap.size)) (va_cwSU 1 hts (gqSU aw_7_25 aw_7_223 aw_6_143 aw_7_26 aw_1_25 aw_7_27) rfl rfl rfl (by decide +kernel) ⟨Nat.le_of_ble_eq_true rfl, Nat.le_of_ble_eq_true rfl⟩) ⟨PG_blind, va_recv hK hP (ci := 1) (q0 := 0) rfl rfl, PG_call hK hG hS hPc hDc hFc⟩ rfl rfl hl.1 rfl (lv_room (Nat.le_of_ble_eq_true rfl)) dJ4_append_bf812_2 ⟨by rw [hrc]; omega, by rw [hrs]; omega⟩) hS (fun q _ h => hFc q h) hFc (fun r_2 u_2 t_2 H_2 L_2 ht_2 hvm_2 hw_2 hB_2 hz_2 hk_2 hS => ?_)
  obtain ⟨v_3, c_4, f_5, k_6, u_2⟩ := u_2
  obtain ⟨rfl, hw⟩ := hw_2
  rw [ht_2] at hB_2
  obtain ⟨hP1, hD1⟩ := hB_2
  obtain ⟨hP, hD⟩ := join_r hPs hDs hk_2 hFc hP1 hD1
  obtain ⟨hP, hD⟩ := seg_join [] [[(a_this_, .inr (1, [.ref v_3, .int 0, .int 0, .int k_6]))], [(v_3, .inl (g 2, c_4, .inl f_5))]] [[(a_this_, .inr (1, [.ref v_3, .int 0, .int 0, .int k_6]))], [(v_3, .inl (g 2, c_4, .inl f_5))]] 2 [0, 1] rfl rfl (by decide) hP hD
  have hP : va_P (dC, dI) vwCl [(a_this_, .inr (1, [.ref v_3, .int 0, .int 0, .int k_6])), (v_3, .inl (g 2, c_4, .inl f_5))] H_2 := hP
  have hD : va_D A [(a_this_, .inr (1, [.ref v_3, .int 0, .int 0, .int k_6])), (v_3, .inl (g 2, c_4, .inl f_5))] := hD
  refine W.widen (k := 1) (n := 2000) (by omega) (by omega) ?_
  refine lv_pop hx hb dJ4_append_bf812_5 rfl ?_
  refine lv_aload_n hx hb dJ4_append_bf812_6 rfl (lv_at hl 0 rfl) ?_
  refine W.widen (k := 1) (n := 2000) (by omega) (by omega) ?_
  exact W.aret (v := .ref a_this_) hx hb hr (Or.inl ⟨_, rfl⟩) (Or.inr ⟨_, rfl⟩) (fun t ht hW => ⟨⟨some a_this_, (v_3, c_4, f_5, k_6, ()), rfl, ⟨rfl, hw⟩, ⟨P_at ht hP, hD⟩⟩, hS.F ht⟩) hS.2.2 dJ4_append_bf812_7
theorem dJ5_charAt_5068e_0 : decode cJ5_charAt_5068e 0 = .ok (.aload_n 0, 1) := by decide +kernel
theorem dJ5_charAt_5068e_1 : decode cJ5_charAt_5068e 1 = .ok (.getfield 22, 3) := by decide +kernel
theorem dJ5_charAt_5068e_4 : decode cJ5_charAt_5068e 4 = .ok (.istore_n 2, 1) := by decide +kernel
theorem dJ5_charAt_5068e_5 : decode cJ5_charAt_5068e 5 = .ok (.aload_n 0, 1) := by decide +kernel
theorem dJ5_charAt_5068e_6 : decode cJ5_charAt_5068e 6 = .ok (.getfield 15, 3) := by decide +kernel
theorem dJ5_charAt_5068e_9 : decode cJ5_charAt_5068e 9 = .ok (.astore_n 3, 1) := by decide +kernel
theorem dJ5_charAt_5068e_10 : decode cJ5_charAt_5068e 10 = .ok (.aload_n 0, 1) := by decide +kernel
theorem dJ5_charAt_5068e_11 : decode cJ5_charAt_5068e 11 = .ok (.getfield 79, 3) := by decide +kernel
theorem dJ5_charAt_5068e_14 : decode cJ5_charAt_5068e 14 = .ok (.aload_n 3, 1) := by decide +kernel
theorem dJ5_charAt_5068e_15 : decode cJ5_charAt_5068e 15 = .ok (.arraylength, 1) := by decide +kernel
theorem dJ5_charAt_5068e_16 : decode cJ5_charAt_5068e 16 = .ok (.iload_n 2, 1) := by decide +kernel
theorem dJ5_charAt_5068e_17 : decode cJ5_charAt_5068e 17 = .ok (.ishr, 1) := by decide +kernel
theorem dJ5_charAt_5068e_18 : decode cJ5_charAt_5068e 18 = .ok (.invokestatic 138, 3) := by decide +kernel
theorem dJ5_charAt_5068e_21 : decode cJ5_charAt_5068e 21 = .ok (.istore 4, 2) := by decide +kernel
theorem dJ5_charAt_5068e_23 : decode cJ5_charAt_5068e 23 = .ok (.iload_n 1, 1) := by decide +kernel
theorem dJ5_charAt_5068e_24 : decode cJ5_charAt_5068e 24 = .ok (.iload 4, 2) := by decide +kernel
theorem dJ5_charAt_5068e_26 : decode cJ5_charAt_5068e 26 = .ok (.invokestatic 144, 3) := by decide +kernel
theorem dJ5_charAt_5068e_29 : decode cJ5_charAt_5068e 29 = .ok (.iload_n 2, 1) := by decide +kernel
theorem dJ5_charAt_5068e_30 : decode cJ5_charAt_5068e 30 = .ok (.ifCond .ne 12, 3) := by decide +kernel
theorem dJ5_charAt_5068e_33 : decode cJ5_charAt_5068e 33 = .ok (.aload_n 3, 1) := by decide +kernel
theorem dJ5_charAt_5068e_34 : decode cJ5_charAt_5068e 34 = .ok (.iload_n 1, 1) := by decide +kernel
theorem dJ5_charAt_5068e_35 : decode cJ5_charAt_5068e 35 = .ok (.baload, 1) := by decide +kernel
theorem dJ5_charAt_5068e_36 : decode cJ5_charAt_5068e 36 = .ok (.sipush 255, 3) := by decide +kernel
theorem dJ5_charAt_5068e_39 : decode cJ5_charAt_5068e 39 = .ok (.iand, 1) := by decide +kernel
theorem dJ5_charAt_5068e_40 : decode cJ5_charAt_5068e 40 = .ok (.i2c, 1) := by decide +kernel
theorem dJ5_charAt_5068e_41 : decode cJ5_charAt_5068e 41 = .ok (.ireturn, 1) := by decide +kernel

set_option maxHeartbeats 8000000 in
set_option maxRecDepth 100000 in
theorem c_J5_charAt_5068e (l : Launch) (dC : Nat → ClassId) (dI : Nat → Nat → Nat) (g : Nat → ClassId) (a_this_ v_this_ c_this_ : Nat) (f_this_ : Nat → Int32) (k_this_ : Int32) (k_ : Int32) (Q : Int32 → Prop) (hw : wp_J5_charAt_5068e c_this_ f_this_ k_this_ k_ Q) (sz : Nat) : Met l yJ5_charAt_5068e wqJ5_charAt_5068e ({ frames := 2, cells := 0, slots := 0, locals := 43 }) (va_Pc [.ref a_this_, .int k_] (PG (dC, dI) g [(a_this_, .inr (1, [.ref v_this_, .int 0, .int 0, .int k_this_])), (v_this_, .inl (g 2, c_this_, .inl f_this_))] sz)) (va_Qi (fun (r : Int32) (u : Unit) => Q r ∧ narrow .char (.int r) = .int r) (fun (u : Unit) t9 => va_P (dC, dI) vwCl [(a_this_, .inr (1, [.ref v_this_, .int 0, .int 0, .int k_this_])), (v_this_, .inl (g 2, c_this_, .inl f_this_))] t9.heap ∧ va_D (va_A [(a_this_, .inr (1, [.ref v_this_, .int 0, .int 0, .int k_this_])), (v_this_, .inl (g 2, c_this_, .inl f_this_))] sz) [(a_this_, .inr (1, [.ref v_this_, .int 0, .int 0, .int k_this_])), (v_this_, .inl (g 2, c_this_, .inl f_this_))]) (va_A [(a_this_, .inr (1, [.ref v_this_, .int 0, .int 0, .int k_this_])), (v_this_, .inl (g 2, c_this_, .inl f_this_))] sz)) 0 0 (va_A [(a_this_, .inr (1, [.ref v_this_, .int 0, .int 0, .int k_this_])), (v_this_, .inl (g 2, c_this_, .inl f_this_))] sz) := by
  refine Met.ofW (cc := cJ5_charAt_5068e) (maxL := 5) (ret := (some .char)) (by decide) rfl ?_
  intro p e s m args below meth c s₁ B hml hv
  obtain ⟨rfl, hsz, hP, hK, hD0, hG⟩ := hv
  have hx := B.exec
  have hb := B.bytes
  have hr := B.returns
  have hts := atoms_spec (ws := wqJ5_charAt_5068e) B.pre
  have hown : s.vm.findClass RJ5 = some m.cls := findClass_of_methodNamed B.named
  have hlocks := B.notSynchronized
  subst hsz
  have hD := hD0.self (sz := s.heap.size)
  generalize hAe : va_A [(a_this_, .inr (1, [.ref v_this_, .int 0, .int 0, .int k_this_])), (v_this_, .inl (g 2, c_this_, .inl f_this_))] s.heap.size = A at hD hG ⊢
  have hA : ∀ q : Nat, s.heap.size ≤ q → A q := fun q h => by rw [← hAe]; exact Or.inr h
  have hS : va_S A s.heap s.heap [] := va_S.rf
  have hrc : (headSpec wqJ5_charAt_5068e ({ frames := 2, cells := 0, slots := 0, locals := 43 })).room.cells = 0 := rfl
  have hrs : (headSpec wqJ5_charAt_5068e ({ frames := 2, cells := 0, slots := 0, locals := 43 })).room.slots = 0 := rfl
  have hl := lv_entry ([.ref a_this_, .int k_]) (n := 5) (Nat.le_of_ble_eq_true rfl)
  rw [lg_entry_eq]
  generalize (lg_sl ([.ref a_this_, .int k_]) ++ List.replicate (5 - (lg_sl ([.ref a_this_, .int k_])).length) Slot.unset).toArray = ls at hl ⊢
  have hl : lv_has ls 5 [(0, .ref a_this_), (1, .int k_)] := hl
  unfold wp_J5_charAt_5068e at hw
  have hf22 := hts (Cond.fieldLink RJ5 22 "java/lang/AbstractStringBuilder" "coder" "B") (aw_l aw_6_234)
  have hiJ4 : ∀ w ∈ u_ws RJ4 TJ4 4, w ∈ wqJ5_charAt_5068e := fun w h => aw_l (aw_wsJ40 w h)
  have hf15 := hts (Cond.fieldLink RJ5 15 "java/lang/AbstractStringBuilder" "value" "[B") (aw_l aw_6_233)
  have hf79 := hts (Cond.fieldLink RJ5 79 "java/lang/AbstractStringBuilder" "count" "I") (aw_l aw_6_236)
  have hmmin138_0 := hts (Cond.methodLink RJ5 138 Lib.Math.min.name) (aw_l aw_7_170)
  have hmmin138_1 := hts (Cond.static Lib.Math.min.name) (aw_l aw_3_141)
  have hmmin138_2 := hts (Cond.initialized "java/lang/Math") (aw_l aw_1_19)
  have hmmin138_3 := hts (Cond.code Lib.Math.min.name Lib.Math.min.code 2 (some .int)) (aw_l aw_3_142)
  refine lv_aload_n hx hb dJ5_charAt_5068e_0 rfl (lv_at hl 0 rfl) ?_
  refine va_get (D := (dC, dI)) (ci := 1) (v := .int 0) (C := RJ4) (T := TJ4) (N := 4) hx hb hts hiJ4 hown hK hP 0 rfl rfl 1 (by decide) hf22 (fun _ h9 => h9) rfl dJ5_charAt_5068e_1 ?_
  refine lv_istore_n (lv' := [(2, .int 0), (0, .ref a_this_), (1, .int k_)]) hx hb dJ5_charAt_5068e_4 rfl hl (by decide) rfl (fun ls hl => ?_)
  refine lv_aload_n hx hb dJ5_charAt_5068e_5 rfl (lv_at hl 1 rfl) ?_
  refine va_get (D := (dC, dI)) (ci := 1) (v := .ref v_this_) (C := RJ4) (T := TJ4) (N := 4) hx hb hts hiJ4 hown hK hP 0 rfl rfl 0 (by decide) hf15 (fun _ h9 => h9) rfl dJ5_charAt_5068e_6 ?_
  refine lv_astore_n (lv' := [(3, .ref v_this_), (2, .int 0), (0, .ref a_this_), (1, .int k_)]) hx hb dJ5_charAt_5068e_9 rfl hl (by decide) rfl (fun ls hl => ?_)
  refine lv_aload_n hx hb dJ5_charAt_5068e_10 rfl (lv_at hl 2 rfl) ?_
  refine va_get (D := (dC, dI)) (ci := 1) (v := .int k_this_) (C := RJ4) (T := TJ4) (N := 4) hx hb hts hiJ4 hown hK hP 0 rfl rfl 3 (by decide) hf79 (fun _ h9 => h9) rfl dJ5_charAt_5068e_11 ?_
  refine lv_aload_n hx hb dJ5_charAt_5068e_14 rfl (lv_at hl 0 rfl) ?_
  refine va_alen hx hb hK hP 1 2 rfl rfl (v := nI c_this_) rfl dJ5_charAt_5068e_15 ?_
  refine lv_iload_n hx hb dJ5_charAt_5068e_16 rfl (lv_at hl 1 rfl) ?_
  refine lv_ishr hx hb dJ5_charAt_5068e_17 ?_
  refine lv_topi (fun x_1 ex_1 => ?_)
  have hw := hw x_1 ex_1
  refine va_mmin hx hb (hml.trans hl.1.symm) hown hmmin138_0 hmmin138_1 hmmin138_2 hmmin138_3 (Nat.le_of_ble_eq_true rfl) (Nat.le_of_ble_eq_true rfl) (by rw [hrc]; omega) (by rw [hrs]; omega) dJ5_charAt_5068e_18 ?_
  refine lv_topi (fun x_2 ex_2 => ?_)
  have hw := hw x_2 ex_2
  refine lv_istore (lv' := [(4, .int x_2), (3, .ref v_this_), (2, .int 0), (0, .ref a_this_), (1, .int k_)]) hx hb dJ5_charAt_5068e_21 hl (by decide) rfl (fun ls hl => ?_)
  refine lv_iload_n hx hb dJ5_charAt_5068e_23 rfl (lv_at hl 4 rfl) ?_
  refine lv_iload hx hb dJ5_charAt_5068e_24 (lv_at hl 0 rfl) ?_
  have hPs : va_P (dC, dI) vwCl (wcat [[(a_this_, .inr (1, [.ref v_this_, .int 0, .int 0, .int k_this_]))], [(v_this_, .inl (g 2, c_this_, .inl f_this_))]] ++ wcat []) s.heap := by rw [show wcat [] = [] from rfl, List.append_nil]; exact hP
  have hDs : va_D A (wcat [[(a_this_, .inr (1, [.ref v_this_, .int 0, .int 0, .int k_this_]))], [(v_this_, .inl (g 2, c_this_, .inl f_this_))]] ++ wcat []) := by rw [show wcat [] = [] from rfl, List.append_nil]; exact hD
  have hPc : va_P (dC, dI) vwCl [] s.heap := P_r hPs
  have hDc : va_D A [] := D_r hDs
  have hFc : ∀ q, va_A [] s.heap.size q → A q := A_all hDc hA hS.1
  refine va_callv (va_runS (As := [.int k_, .int x_2]) (rest := []) ⟨hx, hb, hml, hown, hts⟩ (c_J0_checkIndex_df160 l dC dI g (k_ := k_) (n_ := x_2) (hw := hw) (sz := s.heap.size)) (va_cwS 2 hts (gqS aw_7_171 aw_5_102 aw_1_21 aw_5_103) rfl rfl rfl (by decide +kernel) ⟨Nat.le_of_ble_eq_true rfl, Nat.le_of_ble_eq_true rfl⟩) ⟨PG_blind, PG_call hK hG hS hPc hDc hFc⟩ rfl rfl hl.1 rfl (lv_room (Nat.le_of_ble_eq_true rfl)) dJ5_charAt_5068e_26 ⟨by rw [hrc]; omega, by rw [hrs]; omega⟩) hS (fun q _ h => hFc q h) hFc (fun u_4 t_4 H_4 L_4 ht_4 hvm_4 hw_4 hB_4 hz_4 hk_4 hS => ?_)
  have hw := hw_4
  rw [ht_4] at hB_4
  obtain ⟨hP1, hD1⟩ := hB_4
  obtain ⟨hP, hD⟩ := join_r hPs hDs hk_4 hFc hP1 hD1
  rw [List.append_nil] at hP hD
  have hP : va_P (dC, dI) vwCl [(a_this_, .inr (1, [.ref v_this_, .int 0, .int 0, .int k_this_])), (v_this_, .inl (g 2, c_this_, .inl f_this_))] H_4 := hP
  have hD : va_D A [(a_this_, .inr (1, [.ref v_this_, .int 0, .int 0, .int k_this_])), (v_this_, .inl (g 2, c_this_, .inl f_this_))] := hD
  refine W.widen (k := 0) (n := 0) (by omega) (by omega) ?_
  refine lv_iload_n hx hb dJ5_charAt_5068e_29 rfl (lv_at hl 2 rfl) ?_
  refine lv_if_ne (tgt := 42) hx hb dJ5_charAt_5068e_30 (by decide) (fun c_5 => absurd c_5 (by decide)) (fun _ => ?_)
  refine lv_aload_n hx hb dJ5_charAt_5068e_33 rfl (lv_at hl 1 rfl) ?_
  refine lv_iload_n hx hb dJ5_charAt_5068e_34 rfl (lv_at hl 4 rfl) ?_
  obtain ⟨hi_6, hw⟩ := hw
  refine va_bald hx hb hK hP 1 2 rfl rfl hi_6 dJ5_charAt_5068e_35 ?_
  refine lv_topi (fun x_7 ex_7 => ?_)
  have hw := hw x_7 ex_7
  refine lv_sipush (v := 255) hx hb dJ5_charAt_5068e_36 (by decide) ?_
  refine lv_iand hx hb dJ5_charAt_5068e_39 ?_
  refine lv_topi (fun x_8 ex_8 => ?_)
  have hw := hw x_8 ex_8
  obtain ⟨x_9, ex_9, cx_9⟩ : ∃ y : Int32, y = (x_8.toUInt32 % 65536).toInt32 ∧ narrow .char (.int y) = .int y := ⟨_, rfl, pk_nc _⟩
  have hw := hw x_9 ex_9
  refine lv_i2c (v := x_9) hx hb dJ5_charAt_5068e_40 ex_9.symm ?_
  refine W.widen (k := 0) (n := 0) (by omega) (by omega) ?_
  exact W.zret (v := x_9) hx hb hr cx_9 (fun t ht hW => ⟨⟨x_9, (()), rfl, ⟨hw, cx_9⟩, ⟨P_at ht hP, hD⟩⟩, hS.F ht⟩) hS.2.2 dJ5_charAt_5068e_41
theorem dJ4_charAt_5068e_0 : decode cJ4_charAt_5068e 0 = .ok (.aload_n 0, 1) := by decide +kernel
theorem dJ4_charAt_5068e_1 : decode cJ4_charAt_5068e 1 = .ok (.iload_n 1, 1) := by decide +kernel
theorem dJ4_charAt_5068e_2 : decode cJ4_charAt_5068e 2 = .ok (.invokespecial 329, 3) := by decide +kernel
theorem dJ4_charAt_5068e_5 : decode cJ4_charAt_5068e 5 = .ok (.ireturn, 1) := by decide +kernel

set_option maxHeartbeats 8000000 in
set_option maxRecDepth 100000 in
theorem c_J4_charAt_5068e (l : Launch) (dC : Nat → ClassId) (dI : Nat → Nat → Nat) (g : Nat → ClassId) (a_this_ v_this_ c_this_ : Nat) (f_this_ : Nat → Int32) (k_this_ : Int32) (k_ : Int32) (Q : Int32 → Prop) (hw : wp_J4_charAt_5068e c_this_ f_this_ k_this_ k_ Q) (sz : Nat) : Met l yJ4_charAt_5068e wqJ4_charAt_5068e ({ frames := 3, cells := 0, slots := 0, locals := 67 }) (va_Pc [.ref a_this_, .int k_] (PG (dC, dI) g [(a_this_, .inr (1, [.ref v_this_, .int 0, .int 0, .int k_this_])), (v_this_, .inl (g 2, c_this_, .inl f_this_))] sz)) (va_Qi (fun (r : Int32) (u : Unit) => Q r ∧ narrow .char (.int r) = .int r) (fun (u : Unit) t9 => va_P (dC, dI) vwCl [(a_this_, .inr (1, [.ref v_this_, .int 0, .int 0, .int k_this_])), (v_this_, .inl (g 2, c_this_, .inl f_this_))] t9.heap ∧ va_D (va_A [(a_this_, .inr (1, [.ref v_this_, .int 0, .int 0, .int k_this_])), (v_this_, .inl (g 2, c_this_, .inl f_this_))] sz) [(a_this_, .inr (1, [.ref v_this_, .int 0, .int 0, .int k_this_])), (v_this_, .inl (g 2, c_this_, .inl f_this_))]) (va_A [(a_this_, .inr (1, [.ref v_this_, .int 0, .int 0, .int k_this_])), (v_this_, .inl (g 2, c_this_, .inl f_this_))] sz)) 0 0 (va_A [(a_this_, .inr (1, [.ref v_this_, .int 0, .int 0, .int k_this_])), (v_this_, .inl (g 2, c_this_, .inl f_this_))] sz) := by
  refine Met.ofW (cc := cJ4_charAt_5068e) (maxL := 2) (ret := (some .char)) (by decide) rfl ?_
  intro p e s m args below meth c s₁ B hml hv
  obtain ⟨rfl, hsz, hP, hK, hD0, hG⟩ := hv
  have hx := B.exec
  have hb := B.bytes
  have hr := B.returns
  have hts := atoms_spec (ws := wqJ4_charAt_5068e) B.pre
  have hown : s.vm.findClass RJ4 = some m.cls := findClass_of_methodNamed B.named
  have hlocks := B.notSynchronized
  subst hsz
  have hD := hD0.self (sz := s.heap.size)
  generalize hAe : va_A [(a_this_, .inr (1, [.ref v_this_, .int 0, .int 0, .int k_this_])), (v_this_, .inl (g 2, c_this_, .inl f_this_))] s.heap.size = A at hD hG ⊢
  have hA : ∀ q : Nat, s.heap.size ≤ q → A q := fun q h => by rw [← hAe]; exact Or.inr h
  have hS : va_S A s.heap s.heap [] := va_S.rf
  have hrc : (headSpec wqJ4_charAt_5068e ({ frames := 3, cells := 0, slots := 0, locals := 67 })).room.cells = 0 := rfl
  have hrs : (headSpec wqJ4_charAt_5068e ({ frames := 3, cells := 0, slots := 0, locals := 67 })).room.slots = 0 := rfl
  have hl := lv_entry ([.ref a_this_, .int k_]) (n := 2) (Nat.le_of_ble_eq_true rfl)
  rw [lg_entry_eq]
  generalize (lg_sl ([.ref a_this_, .int k_]) ++ List.replicate (2 - (lg_sl ([.ref a_this_, .int k_])).length) Slot.unset).toArray = ls at hl ⊢
  have hl : lv_has ls 2 [(0, .ref a_this_), (1, .int k_)] := hl
  unfold wp_J4_charAt_5068e at hw
  refine lv_aload_n hx hb dJ4_charAt_5068e_0 rfl (lv_at hl 0 rfl) ?_
  refine lv_iload_n hx hb dJ4_charAt_5068e_1 rfl (lv_at hl 1 rfl) ?_
  obtain ⟨hPs, hDs⟩ := seg_call (segs := [[(a_this_, .inr (1, [.ref v_this_, .int 0, .int 0, .int k_this_]))], [(v_this_, .inl (g 2, c_this_, .inl f_this_))]]) [] [[(a_this_, .inr (1, [.ref v_this_, .int 0, .int 0, .int k_this_]))], [(v_this_, .inl (g 2, c_this_, .inl f_this_))]] 2 [0, 1] rfl rfl (by decide) hP hD
  have hPc : va_P (dC, dI) vwCl [(a_this_, .inr (1, [.ref v_this_, .int 0, .int 0, .int k_this_])), (v_this_, .inl (g 2, c_this_, .inl f_this_))] s.heap := P_r hPs
  have hDc : va_D A [(a_this_, .inr (1, [.ref v_this_, .int 0, .int 0, .int k_this_])), (v_this_, .inl (g 2, c_this_, .inl f_this_))] := D_r hDs
  have hFc : ∀ q, va_A [(a_this_, .inr (1, [.ref v_this_, .int 0, .int 0, .int k_this_])), (v_this_, .inl (g 2, c_this_, .inl f_this_))] s.heap.size q → A q := A_all hDc hA hS.1
  refine va_calli (va_runSU (As := [.int k_]) (rest := []) (hK.1 1 _ rfl).2 ⟨hx, hb, hml, hown, hts⟩ (c_J5_charAt_5068e l dC dI g (a_this_ := a_this_) (v_this_ := v_this_) (c_this_ := c_this_) (f_this_ := f_this_) (k_this_ := k_this_) (k_ := k_) (hw := hw) (sz := s.heap.size)) (va_cwSU 1 hts (gqSU aw_7_167 aw_7_225 aw_6_143 aw_7_168 aw_1_25 aw_7_169) rfl rfl rfl (by decide +kernel) ⟨Nat.le_of_ble_eq_true rfl, Nat.le_of_ble_eq_true rfl⟩) ⟨PG_blind, va_recv hK hP (ci := 1) (q0 := 0) rfl rfl, PG_call hK hG hS hPc hDc hFc⟩ rfl rfl hl.1 rfl (lv_room (Nat.le_of_ble_eq_true rfl)) dJ4_charAt_5068e_2 ⟨by rw [hrc]; omega, by rw [hrs]; omega⟩) hS (fun q _ h => hFc q h) hFc (fun r_2 u_2 t_2 H_2 L_2 ht_2 hvm_2 hw_2 hB_2 hz_2 hk_2 hS => ?_)
  obtain ⟨hw, hn_r_2⟩ := hw_2
  rw [ht_2] at hB_2
  obtain ⟨hP1, hD1⟩ := hB_2
  obtain ⟨hP, hD⟩ := join_r hPs hDs hk_2 hFc hP1 hD1
  obtain ⟨hP, hD⟩ := seg_join [] [[(a_this_, .inr (1, [.ref v_this_, .int 0, .int 0, .int k_this_]))], [(v_this_, .inl (g 2, c_this_, .inl f_this_))]] [[(a_this_, .inr (1, [.ref v_this_, .int 0, .int 0, .int k_this_]))], [(v_this_, .inl (g 2, c_this_, .inl f_this_))]] 2 [0, 1] rfl rfl (by decide) hP hD
  have hP : va_P (dC, dI) vwCl [(a_this_, .inr (1, [.ref v_this_, .int 0, .int 0, .int k_this_])), (v_this_, .inl (g 2, c_this_, .inl f_this_))] H_2 := hP
  have hD : va_D A [(a_this_, .inr (1, [.ref v_this_, .int 0, .int 0, .int k_this_])), (v_this_, .inl (g 2, c_this_, .inl f_this_))] := hD
  refine W.widen (k := 0) (n := 0) (by omega) (by omega) ?_
  refine W.widen (k := 0) (n := 0) (by omega) (by omega) ?_
  exact W.zret (v := r_2) hx hb hr hn_r_2 (fun t ht hW => ⟨⟨r_2, (()), rfl, ⟨hw, hn_r_2⟩, ⟨P_at ht hP, hD⟩⟩, hS.F ht⟩) hS.2.2 dJ4_charAt_5068e_5
theorem dJ7_checkLength_df160_0 : decode cJ7_checkLength_df160 0 = .ok (.iload_n 1, 1) := by decide +kernel
theorem dJ7_checkLength_df160_1 : decode cJ7_checkLength_df160 1 = .ok (.iload_n 0, 1) := by decide +kernel
theorem dJ7_checkLength_df160_2 : decode cJ7_checkLength_df160 2 = .ok (.if_icmp .ge 35, 3) := by decide +kernel
theorem dJ7_checkLength_df160_37 : decode cJ7_checkLength_df160 37 = .ok (.return_, 1) := by decide +kernel

set_option maxHeartbeats 8000000 in
set_option maxRecDepth 100000 in
theorem c_J7_checkLength_df160 (l : Launch) (dC : Nat → ClassId) (dI : Nat → Nat → Nat) (g : Nat → ClassId) (a_ : Int32) (b_ : Int32) (Q : Prop) (hw : wp_J7_checkLength_df160 a_ b_ Q) (sz : Nat) : Met l yJ7_checkLength_df160 wqJ7_checkLength_df160 ({ frames := 0, cells := 0, slots := 0, locals := 0 }) (va_Pc [.int a_, .int b_] (PG (dC, dI) g [] sz)) (va_Qv (fun (u : Unit) => Q) (fun (u : Unit) t9 => va_P (dC, dI) vwCl [] t9.heap ∧ va_D (va_A [] sz) []) (va_A [] sz)) 0 0 (va_A [] sz) := by
  refine Met.ofW (cc := cJ7_checkLength_df160) (maxL := 2) (ret := none) (by decide) rfl ?_
  intro p e s m args below meth c s₁ B hml hv
  obtain ⟨rfl, hsz, hP, hK, hD0, hG⟩ := hv
  have hx := B.exec
  have hb := B.bytes
  have hr := B.returns
  have hts := atoms_spec (ws := wqJ7_checkLength_df160) B.pre
  have hown : s.vm.findClass RJ7 = some m.cls := findClass_of_methodNamed B.named
  have hlocks := B.notSynchronized
  subst hsz
  have hD := hD0.self (sz := s.heap.size)
  generalize hAe : va_A [] s.heap.size = A at hD hG ⊢
  have hA : ∀ q : Nat, s.heap.size ≤ q → A q := fun q h => by rw [← hAe]; exact Or.inr h
  have hS : va_S A s.heap s.heap [] := va_S.rf
  have hrc : (headSpec wqJ7_checkLength_df160 ({ frames := 0, cells := 0, slots := 0, locals := 0 })).room.cells = 0 := rfl
  have hrs : (headSpec wqJ7_checkLength_df160 ({ frames := 0, cells := 0, slots := 0, locals := 0 })).room.slots = 0 := rfl
  have hl := lv_entry ([.int a_, .int b_]) (n := 2) (Nat.le_of_ble_eq_true rfl)
  rw [lg_entry_eq]
  generalize (lg_sl ([.int a_, .int b_]) ++ List.replicate (2 - (lg_sl ([.int a_, .int b_])).length) Slot.unset).toArray = ls at hl ⊢
  have hl : lv_has ls 2 [(0, .int a_), (1, .int b_)] := hl
  unfold wp_J7_checkLength_df160 at hw
  refine lv_iload_n hx hb dJ7_checkLength_df160_0 rfl (lv_at hl 1 rfl) ?_
  refine lv_iload_n hx hb dJ7_checkLength_df160_1 rfl (lv_at hl 0 rfl) ?_
  refine lv_icmp_ge (tgt := 37) hx hb dJ7_checkLength_df160_2 (by decide) (fun c_1 => ?_) (fun c_1 => ?_)
  · have hw := hw.1 c_1
    refine W.widen (k := 0) (n := 0) (by omega) (by omega) ?_
    exact W.vret hx hb hr (fun t ht hW => ⟨⟨(()), rfl, hw, ⟨P_at ht hP, hD⟩⟩, hS.F ht⟩) hS.2.2 dJ7_checkLength_df160_37
  · have hw := hw.2 c_1
    exact hw.elim
theorem dJ7_copyOfRangeByte_39247_0 : decode cJ7_copyOfRangeByte_39247 0 = .ok (.iload_n 1, 1) := by decide +kernel
theorem dJ7_copyOfRangeByte_39247_1 : decode cJ7_copyOfRangeByte_39247 1 = .ok (.iload_n 2, 1) := by decide +kernel
theorem dJ7_copyOfRangeByte_39247_2 : decode cJ7_copyOfRangeByte_39247 2 = .ok (.invokestatic 343, 3) := by decide +kernel
theorem dJ7_copyOfRangeByte_39247_5 : decode cJ7_copyOfRangeByte_39247 5 = .ok (.iload_n 2, 1) := by decide +kernel
theorem dJ7_copyOfRangeByte_39247_6 : decode cJ7_copyOfRangeByte_39247 6 = .ok (.iload_n 1, 1) := by decide +kernel
theorem dJ7_copyOfRangeByte_39247_7 : decode cJ7_copyOfRangeByte_39247 7 = .ok (.isub, 1) := by decide +kernel
theorem dJ7_copyOfRangeByte_39247_8 : decode cJ7_copyOfRangeByte_39247 8 = .ok (.istore_n 3, 1) := by decide +kernel
theorem dJ7_copyOfRangeByte_39247_9 : decode cJ7_copyOfRangeByte_39247 9 = .ok (.iload_n 3, 1) := by decide +kernel
theorem dJ7_copyOfRangeByte_39247_10 : decode cJ7_copyOfRangeByte_39247 10 = .ok (.newarray .byte, 2) := by decide +kernel
theorem dJ7_copyOfRangeByte_39247_12 : decode cJ7_copyOfRangeByte_39247 12 = .ok (.astore 4, 2) := by decide +kernel
theorem dJ7_copyOfRangeByte_39247_14 : decode cJ7_copyOfRangeByte_39247 14 = .ok (.aload_n 0, 1) := by decide +kernel
theorem dJ7_copyOfRangeByte_39247_15 : decode cJ7_copyOfRangeByte_39247 15 = .ok (.iload_n 1, 1) := by decide +kernel
theorem dJ7_copyOfRangeByte_39247_16 : decode cJ7_copyOfRangeByte_39247 16 = .ok (.aload 4, 2) := by decide +kernel
theorem dJ7_copyOfRangeByte_39247_18 : decode cJ7_copyOfRangeByte_39247 18 = .ok (.iconst 0, 1) := by decide +kernel
theorem dJ7_copyOfRangeByte_39247_19 : decode cJ7_copyOfRangeByte_39247 19 = .ok (.aload_n 0, 1) := by decide +kernel
theorem dJ7_copyOfRangeByte_39247_20 : decode cJ7_copyOfRangeByte_39247 20 = .ok (.arraylength, 1) := by decide +kernel
theorem dJ7_copyOfRangeByte_39247_21 : decode cJ7_copyOfRangeByte_39247 21 = .ok (.iload_n 1, 1) := by decide +kernel
theorem dJ7_copyOfRangeByte_39247_22 : decode cJ7_copyOfRangeByte_39247 22 = .ok (.isub, 1) := by decide +kernel
theorem dJ7_copyOfRangeByte_39247_23 : decode cJ7_copyOfRangeByte_39247 23 = .ok (.iload_n 3, 1) := by decide +kernel
theorem dJ7_copyOfRangeByte_39247_24 : decode cJ7_copyOfRangeByte_39247 24 = .ok (.invokestatic 304, 3) := by decide +kernel
theorem dJ7_copyOfRangeByte_39247_27 : decode cJ7_copyOfRangeByte_39247 27 = .ok (.invokestatic 150, 3) := by decide +kernel
theorem dJ7_copyOfRangeByte_39247_30 : decode cJ7_copyOfRangeByte_39247 30 = .ok (.aload 4, 2) := by decide +kernel
theorem dJ7_copyOfRangeByte_39247_32 : decode cJ7_copyOfRangeByte_39247 32 = .ok (.areturn, 1) := by decide +kernel

set_option maxHeartbeats 8000000 in
set_option maxRecDepth 100000 in
theorem c_J7_copyOfRangeByte_39247 (l : Launch) (dC : Nat → ClassId) (dI : Nat → Nat → Nat) (g : Nat → ClassId) (a_a_ n_a_ : Nat) (a_ : Nat → Int32) (f_ : Int32) (t_ : Int32) (Q : Nat → (Nat → Int32) → Prop) (hw : wp_J7_copyOfRangeByte_39247 n_a_ a_ f_ t_ Q) (sz : Nat) : Met l yJ7_copyOfRangeByte_39247 wqJ7_copyOfRangeByte_39247 ({ frames := 1, cells := 1, slots := 2000, locals := 60 }) (va_Pc [.ref a_a_, .int f_, .int t_] (PG (dC, dI) g [(a_a_, .inl (g 2, n_a_, .inl a_))] sz)) (va_Qq (fun (r : Option Nat) (u : Nat × Nat × (Nat → Int32) × Unit) => r = some u.1 ∧ (Q u.2.1 u.2.2.1)) (fun (u : Nat × Nat × (Nat → Int32) × Unit) t9 => va_P (dC, dI) vwCl [(a_a_, .inl (g 2, n_a_, .inl a_)), (u.1, .inl (g 2, u.2.1, .inl u.2.2.1))] t9.heap ∧ va_D (va_A [(a_a_, .inl (g 2, n_a_, .inl a_))] sz) [(a_a_, .inl (g 2, n_a_, .inl a_)), (u.1, .inl (g 2, u.2.1, .inl u.2.2.1))]) (va_A [(a_a_, .inl (g 2, n_a_, .inl a_))] sz)) 1 2000 (va_A [(a_a_, .inl (g 2, n_a_, .inl a_))] sz) := by
  refine Met.ofW (cc := cJ7_copyOfRangeByte_39247) (maxL := 5) (ret := (some (.array .byte))) (by decide) rfl ?_
  intro p e s m args below meth c s₁ B hml hv
  obtain ⟨rfl, hsz, hP, hK, hD0, hG⟩ := hv
  have hx := B.exec
  have hb := B.bytes
  have hr := B.returns
  have hts := atoms_spec (ws := wqJ7_copyOfRangeByte_39247) B.pre
  have hown : s.vm.findClass RJ7 = some m.cls := findClass_of_methodNamed B.named
  have hlocks := B.notSynchronized
  subst hsz
  have hD := hD0.self (sz := s.heap.size)
  generalize hAe : va_A [(a_a_, .inl (g 2, n_a_, .inl a_))] s.heap.size = A at hD hG ⊢
  have hA : ∀ q : Nat, s.heap.size ≤ q → A q := fun q h => by rw [← hAe]; exact Or.inr h
  have hS : va_S A s.heap s.heap [] := va_S.rf
  have hrc : (headSpec wqJ7_copyOfRangeByte_39247 ({ frames := 1, cells := 1, slots := 2000, locals := 60 })).room.cells = 1 := rfl
  have hrs : (headSpec wqJ7_copyOfRangeByte_39247 ({ frames := 1, cells := 1, slots := 2000, locals := 60 })).room.slots = 2000 := rfl
  have hl := lv_entry ([.ref a_a_, .int f_, .int t_]) (n := 5) (Nat.le_of_ble_eq_true rfl)
  rw [lg_entry_eq]
  generalize (lg_sl ([.ref a_a_, .int f_, .int t_]) ++ List.replicate (5 - (lg_sl ([.ref a_a_, .int f_, .int t_])).length) Slot.unset).toArray = ls at hl ⊢
  have hl : lv_has ls 5 [(0, .ref a_a_), (1, .int f_), (2, .int t_)] := hl
  unfold wp_J7_copyOfRangeByte_39247 at hw
  have hnabyte := hts (Cond.arrayClass .byte) (aw_l aw_3_61)
  have hmmin304_0 := hts (Cond.methodLink RJ7 304 Lib.Math.min.name) (aw_l aw_6_175)
  have hmmin304_1 := hts (Cond.static Lib.Math.min.name) (aw_l aw_3_141)
  have hmmin304_2 := hts (Cond.initialized "java/lang/Math") (aw_l aw_1_19)
  have hmmin304_3 := hts (Cond.code Lib.Math.min.name Lib.Math.min.code 2 (some .int)) (aw_l aw_3_142)
  have hac150_0 := hts (Cond.methodLink RJ7 150 arraycopyName) (aw_l aw_6_176)
  have hac150_1 := hts (Cond.native arraycopyName) (aw_l aw_6_178)
  have hac150_2 := hts (Cond.static arraycopyName) (aw_l aw_6_177)
  have hac150_3 := hts (Cond.initialized "java/lang/System") (aw_l aw_1_29)
  refine lv_iload_n hx hb dJ7_copyOfRangeByte_39247_0 rfl (lv_at hl 1 rfl) ?_
  refine lv_iload_n hx hb dJ7_copyOfRangeByte_39247_1 rfl (lv_at hl 2 rfl) ?_
  have hPs : va_P (dC, dI) vwCl (wcat [[(a_a_, .inl (g 2, n_a_, .inl a_))]] ++ wcat []) s.heap := by rw [show wcat [] = [] from rfl, List.append_nil]; exact hP
  have hDs : va_D A (wcat [[(a_a_, .inl (g 2, n_a_, .inl a_))]] ++ wcat []) := by rw [show wcat [] = [] from rfl, List.append_nil]; exact hD
  have hPc : va_P (dC, dI) vwCl [] s.heap := P_r hPs
  have hDc : va_D A [] := D_r hDs
  have hFc : ∀ q, va_A [] s.heap.size q → A q := A_all hDc hA hS.1
  refine va_callv (va_runS (As := [.int f_, .int t_]) (rest := []) ⟨hx, hb, hml, hown, hts⟩ (c_J7_checkLength_df160 l dC dI g (a_ := f_) (b_ := t_) (hw := hw) (sz := s.heap.size)) (va_cwS 2 hts (gqS aw_7_86 aw_7_87 aw_1_28 aw_7_88) rfl rfl rfl (by decide +kernel) ⟨Nat.le_of_ble_eq_true rfl, Nat.le_of_ble_eq_true rfl⟩) ⟨PG_blind, PG_call hK hG hS hPc hDc hFc⟩ rfl rfl hl.1 rfl (lv_room (Nat.le_of_ble_eq_true rfl)) dJ7_copyOfRangeByte_39247_2 ⟨by rw [hrc]; omega, by rw [hrs]; omega⟩) hS (fun q _ h => hFc q h) hFc (fun u_2 t_2 H_2 L_2 ht_2 hvm_2 hw_2 hB_2 hz_2 hk_2 hS => ?_)
  have hw := hw_2
  rw [ht_2] at hB_2
  obtain ⟨hP1, hD1⟩ := hB_2
  obtain ⟨hP, hD⟩ := join_r hPs hDs hk_2 hFc hP1 hD1
  rw [List.append_nil] at hP hD
  have hP : va_P (dC, dI) vwCl [(a_a_, .inl (g 2, n_a_, .inl a_))] H_2 := hP
  have hD : va_D A [(a_a_, .inl (g 2, n_a_, .inl a_))] := hD
  refine W.widen (k := 0) (n := 0) (by omega) (by omega) ?_
  refine lv_iload_n hx hb dJ7_copyOfRangeByte_39247_5 rfl (lv_at hl 2 rfl) ?_
  refine lv_iload_n hx hb dJ7_copyOfRangeByte_39247_6 rfl (lv_at hl 1 rfl) ?_
  refine lv_isub hx hb dJ7_copyOfRangeByte_39247_7 ?_
  refine lv_topi (fun x_3 ex_3 => ?_)
  have hw := hw x_3 ex_3
  refine lv_istore_n (lv' := [(3, .int x_3), (0, .ref a_a_), (1, .int f_), (2, .int t_)]) hx hb dJ7_copyOfRangeByte_39247_8 rfl hl (by decide) rfl (fun ls hl => ?_)
  refine lv_iload_n hx hb dJ7_copyOfRangeByte_39247_9 rfl (lv_at hl 0 rfl) ?_
  obtain ⟨n_7, en_7, ln_7, hw⟩ := hw
  refine va_newa (atype := .byte) (a0 := (n_7, .inl (fun _ => 0))) hx hb hnabyte rfl hK hP hD hS hA (fun _ => rfl) (by rw [en_7]; exact nI_pos (by omega)) (N' := n_7) (by rw [en_7]; exact nI_clamp (by omega)) (show n_7 * 1 ≤ 536870912 by omega) (by rw [hrc]; omega) (by rw [hrs]; omega) dJ7_copyOfRangeByte_39247_10 (fun a_q_4 cA_6 H_5 hK9 hP hD hS => ?_)
  obtain rfl : g 2 = cA_6 := K_one hK9 2 5 rfl rfl
  obtain ⟨hP, hD⟩ := seg_join [[(a_a_, .inl (g 2, n_a_, .inl a_))]] [[(a_q_4, .inl (g 2, n_7, .inl (fun _ => 0)))]] [[(a_a_, .inl (g 2, n_a_, .inl a_))], [(a_q_4, .inl (g 2, n_7, .inl (fun _ => 0)))]] 2 [0, 1] rfl rfl (by decide) hP hD
  have hP : va_P (dC, dI) vwCl [(a_a_, .inl (g 2, n_a_, .inl a_)), (a_q_4, .inl (g 2, n_7, .inl (fun _ => 0)))] H_5 := hP
  have hD : va_D A [(a_a_, .inl (g 2, n_a_, .inl a_)), (a_q_4, .inl (g 2, n_7, .inl (fun _ => 0)))] := hD
  refine W.widen (k := 1) (n := 2000) (by omega) (by omega) ?_
  refine lv_astore (lv' := [(4, .ref a_q_4), (3, .int x_3), (0, .ref a_a_), (1, .int f_), (2, .int t_)]) hx hb dJ7_copyOfRangeByte_39247_12 hl (by decide) rfl (fun ls hl => ?_)
  refine lv_aload_n hx hb dJ7_copyOfRangeByte_39247_14 rfl (lv_at hl 2 rfl) ?_
  refine lv_iload_n hx hb dJ7_copyOfRangeByte_39247_15 rfl (lv_at hl 3 rfl) ?_
  refine lv_aload hx hb dJ7_copyOfRangeByte_39247_16 (lv_at hl 0 rfl) ?_
  refine lv_iconst (v := 0) hx hb dJ7_copyOfRangeByte_39247_18 (by decide) ?_
  refine lv_aload_n hx hb dJ7_copyOfRangeByte_39247_19 rfl (lv_at hl 2 rfl) ?_
  refine va_alen hx hb hK hP 0 2 rfl rfl (v := nI n_a_) rfl dJ7_copyOfRangeByte_39247_20 ?_
  refine lv_iload_n hx hb dJ7_copyOfRangeByte_39247_21 rfl (lv_at hl 3 rfl) ?_
  refine lv_isub hx hb dJ7_copyOfRangeByte_39247_22 ?_
  refine lv_topi (fun x_8 ex_8 => ?_)
  have hw := hw x_8 ex_8
  refine lv_iload_n hx hb dJ7_copyOfRangeByte_39247_23 rfl (lv_at hl 1 rfl) ?_
  refine va_mmin hx hb (hml.trans hl.1.symm) hown hmmin304_0 hmmin304_1 hmmin304_2 hmmin304_3 (Nat.le_of_ble_eq_true rfl) (Nat.le_of_ble_eq_true rfl) (by rw [hrc]; omega) (by rw [hrs]; omega) dJ7_copyOfRangeByte_39247_24 ?_
  refine lv_topi (fun x_9 ex_9 => ?_)
  have hw := hw x_9 ex_9
  obtain ⟨hc_131, hc_132, hc_133, hc_134, hc_135, hc_136, hw⟩ := hw
  refine va_copyi hx hb (hml.trans hl.1.symm) hown hac150_0 hac150_1 hac150_2 hac150_3 hK hP hD hS 0 1 2 2 rfl rfl rfl rfl rfl hc_131 hc_132 hc_133 hc_134 hc_135 hc_136 (Nat.le_of_ble_eq_true rfl) (Nat.le_of_ble_eq_true rfl) dJ7_copyOfRangeByte_39247_27 (fun H_11 L_12 hP hD hS => ?_)
  have hP : va_P (dC, dI) vwCl [(a_a_, .inl (g 2, n_a_, .inl a_)), (a_q_4, .inl (g 2, n_7, .inl (va_cpy a_ (fun _ => 0) f_.toNatClampNeg ((0 : Int32).toNatClampNeg) x_9.toNatClampNeg)))] H_11 := hP
  have hD : va_D A [(a_a_, .inl (g 2, n_a_, .inl a_)), (a_q_4, .inl (g 2, n_7, .inl (va_cpy a_ (fun _ => 0) f_.toNatClampNeg ((0 : Int32).toNatClampNeg) x_9.toNatClampNeg)))] := hD
  refine lv_aload hx hb dJ7_copyOfRangeByte_39247_30 (lv_at hl 0 rfl) ?_
  refine W.widen (k := 1) (n := 2000) (by omega) (by omega) ?_
  exact W.aret (v := .ref a_q_4) hx hb hr (Or.inr ⟨_, rfl⟩) (Or.inr ⟨_, rfl⟩) (fun t ht hW => ⟨⟨some a_q_4, (a_q_4, n_7, (va_cpy a_ (fun _ => 0) f_.toNatClampNeg ((0 : Int32).toNatClampNeg) x_9.toNatClampNeg), ()), rfl, ⟨rfl, hw⟩, ⟨P_at ht hP, hD⟩⟩, hS.F ht⟩) hS.2.2 dJ7_copyOfRangeByte_39247_32
theorem dJ7_copyOfRange_39247_0 : decode cJ7_copyOfRange_39247 0 = .ok (.iload_n 1, 1) := by decide +kernel
theorem dJ7_copyOfRange_39247_10 : decode cJ7_copyOfRange_39247 10 = .ok (.aload_n 0, 1) := by decide +kernel
theorem dJ7_copyOfRange_39247_11 : decode cJ7_copyOfRange_39247 11 = .ok (.iload_n 1, 1) := by decide +kernel
theorem dJ7_copyOfRange_39247_12 : decode cJ7_copyOfRange_39247 12 = .ok (.iload_n 2, 1) := by decide +kernel
theorem dJ7_copyOfRange_39247_13 : decode cJ7_copyOfRange_39247 13 = .ok (.invokestatic 339, 3) := by decide +kernel
theorem dJ7_copyOfRange_39247_16 : decode cJ7_copyOfRange_39247 16 = .ok (.areturn, 1) := by decide +kernel
theorem dJ7_copyOfRange_39247_1 : decode cJ7_copyOfRange_39247 1 = .ok (.ifCond .ne 9, 3) := by decide +kernel
theorem dJ7_copyOfRange_39247_4 : decode cJ7_copyOfRange_39247 4 = .ok (.iload_n 2, 1) := by decide +kernel
theorem dJ7_copyOfRange_39247_5 : decode cJ7_copyOfRange_39247 5 = .ok (.aload_n 0, 1) := by decide +kernel
theorem dJ7_copyOfRange_39247_6 : decode cJ7_copyOfRange_39247 6 = .ok (.arraylength, 1) := by decide +kernel
theorem dJ7_copyOfRange_39247_7 : decode cJ7_copyOfRange_39247 7 = .ok (.if_icmp .eq 10, 3) := by decide +kernel
theorem dJ7_copyOfRange_39247_17 : decode cJ7_copyOfRange_39247 17 = .ok (.aload_n 0, 1) := by decide +kernel
theorem dJ7_copyOfRange_39247_18 : decode cJ7_copyOfRange_39247 18 = .ok (.invokevirtual 310, 3) := by decide +kernel
theorem dJ7_copyOfRange_39247_21 : decode cJ7_copyOfRange_39247 21 = .ok (.checkcast 311, 3) := by decide +kernel
theorem dJ7_copyOfRange_39247_24 : decode cJ7_copyOfRange_39247 24 = .ok (.areturn, 1) := by decide +kernel

set_option maxHeartbeats 8000000 in
set_option maxRecDepth 100000 in
theorem c_J7_copyOfRange_39247 (l : Launch) (dC : Nat → ClassId) (dI : Nat → Nat → Nat) (g : Nat → ClassId) (a_a_ n_a_ : Nat) (a_ : Nat → Int32) (f_ : Int32) (t_ : Int32) (Q : Nat → (Nat → Int32) → Prop) (hw : wp_J7_copyOfRange_39247 n_a_ a_ f_ t_ Q) (sz : Nat) : Met l yJ7_copyOfRange_39247 wqJ7_copyOfRange_39247 ({ frames := 2, cells := 1, slots := 2000, locals := 84 }) (va_Pc [.ref a_a_, .int f_, .int t_] (PG (dC, dI) g [(a_a_, .inl (g 2, n_a_, .inl a_))] sz)) (va_Qq (fun (r : Option Nat) (u : Nat × Nat × (Nat → Int32) × Unit) => r = some u.1 ∧ (Q u.2.1 u.2.2.1)) (fun (u : Nat × Nat × (Nat → Int32) × Unit) t9 => va_P (dC, dI) vwCl [(a_a_, .inl (g 2, n_a_, .inl a_)), (u.1, .inl (g 2, u.2.1, .inl u.2.2.1))] t9.heap ∧ va_D (va_A [(a_a_, .inl (g 2, n_a_, .inl a_))] sz) [(a_a_, .inl (g 2, n_a_, .inl a_)), (u.1, .inl (g 2, u.2.1, .inl u.2.2.1))]) (va_A [(a_a_, .inl (g 2, n_a_, .inl a_))] sz)) 1 2000 (va_A [(a_a_, .inl (g 2, n_a_, .inl a_))] sz) := by
  refine Met.ofW (cc := cJ7_copyOfRange_39247) (maxL := 3) (ret := (some (.array .byte))) (by decide) rfl ?_
  intro p e s m args below meth c s₁ B hml hv
  obtain ⟨rfl, hsz, hP, hK, hD0, hG⟩ := hv
  have hx := B.exec
  have hb := B.bytes
  have hr := B.returns
  have hts := atoms_spec (ws := wqJ7_copyOfRange_39247) B.pre
  have hown : s.vm.findClass RJ7 = some m.cls := findClass_of_methodNamed B.named
  have hlocks := B.notSynchronized
  subst hsz
  have hD := hD0.self (sz := s.heap.size)
  generalize hAe : va_A [(a_a_, .inl (g 2, n_a_, .inl a_))] s.heap.size = A at hD hG ⊢
  have hA : ∀ q : Nat, s.heap.size ≤ q → A q := fun q h => by rw [← hAe]; exact Or.inr h
  have hS : va_S A s.heap s.heap [] := va_S.rf
  have hrc : (headSpec wqJ7_copyOfRange_39247 ({ frames := 2, cells := 1, slots := 2000, locals := 84 })).room.cells = 1 := rfl
  have hrs : (headSpec wqJ7_copyOfRange_39247 ({ frames := 2, cells := 1, slots := 2000, locals := 84 })).room.slots = 2000 := rfl
  have hl := lv_entry ([.ref a_a_, .int f_, .int t_]) (n := 3) (Nat.le_of_ble_eq_true rfl)
  rw [lg_entry_eq]
  generalize (lg_sl ([.ref a_a_, .int f_, .int t_]) ++ List.replicate (3 - (lg_sl ([.ref a_a_, .int f_, .int t_])).length) Slot.unset).toArray = ls at hl ⊢
  have hl : lv_has ls 3 [(0, .ref a_a_), (1, .int f_), (2, .int t_)] := hl
  unfold wp_J7_copyOfRange_39247 at hw
  have hcl310_0 := hts (Cond.methodLink RJ7 310 ⟨"[B", "clone", "()Ljava/lang/Object;"⟩) (aw_l aw_6_168)
  have hcl310_1 := hts (Cond.sameMethod "[B" "java/lang/Object" "clone" "()Ljava/lang/Object;") (aw_l aw_6_169)
  have hcl310_2 := hts (Cond.native ⟨"java/lang/Object", "clone", "()Ljava/lang/Object;"⟩) (aw_l aw_6_170)
  have hcl310_3 := hts (Cond.instanceMethod ⟨"java/lang/Object", "clone", "()Ljava/lang/Object;"⟩) (aw_l aw_6_171)
  have hcl310_4 := hts (Cond.selects "[B" ⟨"[B", "clone", "()Ljava/lang/Object;"⟩ ⟨"java/lang/Object", "clone", "()Ljava/lang/Object;"⟩) (aw_l aw_6_172)
  have hcl311 := hts (Cond.classLink RJ7 311 "[B") (aw_l aw_6_174)
  refine lv_iload_n hx hb dJ7_copyOfRange_39247_0 rfl (lv_at hl 1 rfl) ?_
  refine W_abs (fun QM hQM => ?_)
  have JN10 : ∀  (H : Heap) (locs : List Loc), (wj_J7_copyOfRange_39247_10 n_a_ a_ f_ t_ Q)  → va_P (dC, dI) vwCl [(a_a_, .inl (g 2, n_a_, .inl a_))] H → va_D A [(a_a_, .inl (g 2, n_a_, .inl a_))] → va_S A s.heap H locs → ∀ (ls : Array Slot), lv_has ls 3 [(0, .ref a_a_), (1, .int f_), (2, .int t_)] → W p l e (headSpec wqJ7_copyOfRange_39247 ({ frames := 2, cells := 1, slots := 2000, locals := 84 })).room s m ([.ref a_a_, .int f_, .int t_] : List Value).toArray below meth c H locs 0 0 QM (F0 m 10 ls []) := by
    intro  H locs hw hP hD hS ls hl
    refine lv_aload_n hx hb dJ7_copyOfRange_39247_10 rfl (lv_at hl 0 rfl) ?_
    refine lv_iload_n hx hb dJ7_copyOfRange_39247_11 rfl (lv_at hl 1 rfl) ?_
    refine lv_iload_n hx hb dJ7_copyOfRange_39247_12 rfl (lv_at hl 2 rfl) ?_
    obtain ⟨hPs, hDs⟩ := seg_call (segs := [[(a_a_, .inl (g 2, n_a_, .inl a_))]]) [] [[(a_a_, .inl (g 2, n_a_, .inl a_))]] 1 [0] rfl rfl (by decide) hP hD
    have hPc : va_P (dC, dI) vwCl [(a_a_, .inl (g 2, n_a_, .inl a_))] H := P_r hPs
    have hDc : va_D A [(a_a_, .inl (g 2, n_a_, .inl a_))] := D_r hDs
    have hFc : ∀ q, va_A [(a_a_, .inl (g 2, n_a_, .inl a_))] H.size q → A q := A_all hDc hA hS.1
    refine va_callq (va_runS (As := [.ref a_a_, .int f_, .int t_]) (rest := []) ⟨hx, hb, hml, hown, hts⟩ (c_J7_copyOfRangeByte_39247 l dC dI g (a_a_ := a_a_) (n_a_ := n_a_) (a_ := a_) (f_ := f_) (t_ := t_) (hw := hw) (sz := H.size)) (va_cwS 3 hts (gqS aw_7_83 aw_7_84 aw_1_28 aw_7_85) rfl rfl rfl (by decide +kernel) ⟨Nat.le_of_ble_eq_true rfl, Nat.le_of_ble_eq_true rfl⟩) ⟨PG_blind, PG_call hK hG hS hPc hDc hFc⟩ rfl rfl hl.1 rfl (lv_room (Nat.le_of_ble_eq_true rfl)) dJ7_copyOfRange_39247_13 ⟨by rw [hrc]; omega, by rw [hrs]; omega⟩) hS (fun q _ h => hFc q h) hFc (fun r_2 u_2 t_2 H_2 L_2 ht_2 hvm_2 hw_2 hB_2 hz_2 hk_2 hS => ?_)
    obtain ⟨a_q_3, n_4, f_5, u_2⟩ := u_2
    obtain ⟨rfl, hw⟩ := hw_2
    rw [ht_2] at hB_2
    obtain ⟨hP1, hD1⟩ := hB_2
    obtain ⟨hP, hD⟩ := join_r hPs hDs hk_2 hFc hP1 hD1
    obtain ⟨hP, hD⟩ := seg_join [] [[(a_a_, .inl (g 2, n_a_, .inl a_))], [(a_q_3, .inl (g 2, n_4, .inl f_5))]] [[(a_a_, .inl (g 2, n_a_, .inl a_))], [(a_q_3, .inl (g 2, n_4, .inl f_5))]] 2 [0, 1] rfl rfl (by decide) hP hD
    have hP : va_P (dC, dI) vwCl [(a_a_, .inl (g 2, n_a_, .inl a_)), (a_q_3, .inl (g 2, n_4, .inl f_5))] H_2 := hP
    have hD : va_D A [(a_a_, .inl (g 2, n_a_, .inl a_)), (a_q_3, .inl (g 2, n_4, .inl f_5))] := hD
    refine W.widen (k := 1) (n := 2000) (by omega) (by omega) ?_
    refine W.widen (k := 1) (n := 2000) (by omega) (by omega) ?_
    subst hQM
    exact W.aret (v := .ref a_q_3) hx hb hr (Or.inr ⟨_, rfl⟩) (Or.inr ⟨_, rfl⟩) (fun t ht hW => ⟨⟨some a_q_3, (a_q_3, n_4, f_5, ()), rfl, ⟨rfl, hw⟩, ⟨P_at ht hP, hD⟩⟩, hS.F ht⟩) hS.2.2 dJ7_copyOfRange_39247_16
  refine lv_if_ne (tgt := 10) hx hb dJ7_copyOfRange_39247_1 (by decide) (fun c_6 => ?_) (fun c_6 => ?_)
  · have hw := hw.2 c_6
    refine W.widen (k := 0) (n := 0) (by omega) (by omega) ?_
    exact JN10  _ _ hw hP hD hS _ (lv_sub hl [0, 1, 2] rfl)
  · have hw := hw.1 c_6
    refine lv_iload_n hx hb dJ7_copyOfRange_39247_4 rfl (lv_at hl 2 rfl) ?_
    refine lv_aload_n hx hb dJ7_copyOfRange_39247_5 rfl (lv_at hl 0 rfl) ?_
    refine va_alen hx hb hK hP 0 2 rfl rfl (v := nI n_a_) rfl dJ7_copyOfRange_39247_6 ?_
    refine lv_icmp_eq (tgt := 17) hx hb dJ7_copyOfRange_39247_7 (by decide) (fun c_7 => ?_) (fun c_7 => ?_)
    · have hw := hw.1 c_7
      refine lv_aload_n hx hb dJ7_copyOfRange_39247_17 rfl (lv_at hl 0 rfl) ?_
      obtain ⟨hc_111, hc_112, hw⟩ := hw
      refine va_clone hx hb (hml.trans hl.1.symm) hown hcl310_0 hcl310_1 hcl310_2 hcl310_3 hcl310_4 (cc_2 hG) hK hP hD hS hA 0 2 rfl rfl ((hK.2 2 _ rfl).2) (byte_fit hc_112) (Nat.le_of_ble_eq_true rfl) (Nat.le_of_ble_eq_true rfl) (by rw [hrc]; omega) (by rw [hrs]; show _ + n_a_ ≤ _; omega) dJ7_copyOfRange_39247_18 (fun a_q_9 H_10 hK9 hP hD hS => ?_)
      obtain ⟨hP, hD⟩ := seg_join [[(a_a_, .inl (g 2, n_a_, .inl a_))]] [[(a_q_9, .inl (g 2, n_a_, .inl a_))]] [[(a_a_, .inl (g 2, n_a_, .inl a_))], [(a_q_9, .inl (g 2, n_a_, .inl a_))]] 2 [0, 1] rfl rfl (by decide) hP hD
      have hP : va_P (dC, dI) vwCl [(a_a_, .inl (g 2, n_a_, .inl a_)), (a_q_9, .inl (g 2, n_a_, .inl a_))] H_10 := hP
      have hD : va_D A [(a_a_, .inl (g 2, n_a_, .inl a_)), (a_q_9, .inl (g 2, n_a_, .inl a_))] := hD
      refine W.widen (k := 1) (n := 2000) (by show _ ≤ _; omega) (by show _ + n_a_ ≤ _; omega) ?_
      refine va_castA hx hb hown hcl311 hP 1 rfl ((hK.2 2 _ rfl).2) dJ7_copyOfRange_39247_21 ?_
      refine W.widen (k := 1) (n := 2000) (by omega) (by omega) ?_
      subst hQM
      exact W.aret (v := .ref a_q_9) hx hb hr (Or.inr ⟨_, rfl⟩) (Or.inr ⟨_, rfl⟩) (fun t ht hW => ⟨⟨some a_q_9, (a_q_9, n_a_, a_, ()), rfl, ⟨rfl, hw⟩, ⟨P_at ht hP, hD⟩⟩, hS.F ht⟩) hS.2.2 dJ7_copyOfRange_39247_24
    · have hw := hw.2 c_7
      refine W.widen (k := 0) (n := 0) (by omega) (by omega) ?_
      exact JN10  _ _ hw hP hD hS _ (lv_sub hl [0, 1, 2] rfl)
theorem dJ0_init_db425_0 : decode cJ0_init_db425 0 = .ok (.aload_n 0, 1) := by decide +kernel
theorem dJ0_init_db425_1 : decode cJ0_init_db425 1 = .ok (.invokespecial 1, 3) := by decide +kernel
theorem dJ0_init_db425_4 : decode cJ0_init_db425 4 = .ok (.aload_n 1, 1) := by decide +kernel
theorem dJ0_init_db425_5 : decode cJ0_init_db425 5 = .ok (.invokevirtual 552, 3) := by decide +kernel
theorem dJ0_init_db425_8 : decode cJ0_init_db425 8 = .ok (.astore_n 3, 1) := by decide +kernel
theorem dJ0_init_db425_9 : decode cJ0_init_db425 9 = .ok (.aload_n 1, 1) := by decide +kernel
theorem dJ0_init_db425_10 : decode cJ0_init_db425 10 = .ok (.invokevirtual 549, 3) := by decide +kernel
theorem dJ0_init_db425_13 : decode cJ0_init_db425 13 = .ok (.istore 4, 2) := by decide +kernel
theorem dJ0_init_db425_15 : decode cJ0_init_db425 15 = .ok (.aload_n 1, 1) := by decide +kernel
theorem dJ0_init_db425_16 : decode cJ0_init_db425 16 = .ok (.invokevirtual 1047, 3) := by decide +kernel
theorem dJ0_init_db425_19 : decode cJ0_init_db425 19 = .ok (.ifCond .eq 22, 3) := by decide +kernel
theorem dJ0_init_db425_22 : decode cJ0_init_db425 22 = .ok (.aload_n 0, 1) := by decide +kernel
theorem dJ0_init_db425_23 : decode cJ0_init_db425 23 = .ok (.iconst 0, 1) := by decide +kernel
theorem dJ0_init_db425_24 : decode cJ0_init_db425 24 = .ok (.putfield 15, 3) := by decide +kernel
theorem dJ0_init_db425_27 : decode cJ0_init_db425 27 = .ok (.aload_n 0, 1) := by decide +kernel
theorem dJ0_init_db425_28 : decode cJ0_init_db425 28 = .ok (.aload_n 3, 1) := by decide +kernel
theorem dJ0_init_db425_29 : decode cJ0_init_db425 29 = .ok (.iconst 0, 1) := by decide +kernel
theorem dJ0_init_db425_30 : decode cJ0_init_db425 30 = .ok (.iload 4, 2) := by decide +kernel
theorem dJ0_init_db425_32 : decode cJ0_init_db425 32 = .ok (.invokestatic 54, 3) := by decide +kernel
theorem dJ0_init_db425_35 : decode cJ0_init_db425 35 = .ok (.putfield 9, 3) := by decide +kernel
theorem dJ0_init_db425_38 : decode cJ0_init_db425 38 = .ok (.goto 59, 3) := by decide +kernel
theorem dJ0_init_db425_97 : decode cJ0_init_db425 97 = .ok (.return_, 1) := by decide +kernel

set_option maxHeartbeats 8000000 in
set_option maxRecDepth 100000 in
theorem c_J0_init_db425 (l : Launch) (dC : Nat → ClassId) (dI : Nat → Nat → Nat) (g : Nat → ClassId) (a_this_ : Nat) (a_sb v_sb c_sb : Nat) (f_sb : Nat → Int32) (k_sb : Int32) (Q : Nat → (Nat → Int32) → Prop) (hw : wp_J0_init_db425 c_sb f_sb k_sb Q) (sz : Nat) : Met l yJ0_init_db425 wqJ0_init_db425 ({ frames := 3, cells := 1, slots := 2000, locals := 106 }) (va_Pc [.ref a_this_, .ref a_sb, .null] (PG (dC, dI) g [(a_this_, .inr (0, [.null, .int 0, .int 0, .int 0])), (a_sb, .inr (1, [.ref v_sb, .int 0, .int 0, .int k_sb])), (v_sb, .inl (g 2, c_sb, .inl f_sb))] sz)) (va_Qv (fun (u : Nat × Nat × (Nat → Int32) × Unit) => Q u.2.1 u.2.2.1) (fun (u : Nat × Nat × (Nat → Int32) × Unit) t9 => va_P (dC, dI) vwCl [(a_this_, .inr (0, [.ref u.1, .int 0, .int 0, .int 0])), (u.1, .inl (g 2, u.2.1, .inl u.2.2.1)), (a_sb, .inr (1, [.ref v_sb, .int 0, .int 0, .int k_sb])), (v_sb, .inl (g 2, c_sb, .inl f_sb))] t9.heap ∧ va_D (va_A [(a_this_, .inr (0, [.null, .int 0, .int 0, .int 0])), (a_sb, .inr (1, [.ref v_sb, .int 0, .int 0, .int k_sb])), (v_sb, .inl (g 2, c_sb, .inl f_sb))] sz) [(a_this_, .inr (0, [.ref u.1, .int 0, .int 0, .int 0])), (u.1, .inl (g 2, u.2.1, .inl u.2.2.1)), (a_sb, .inr (1, [.ref v_sb, .int 0, .int 0, .int k_sb])), (v_sb, .inl (g 2, c_sb, .inl f_sb))]) (va_A [(a_this_, .inr (0, [.null, .int 0, .int 0, .int 0])), (a_sb, .inr (1, [.ref v_sb, .int 0, .int 0, .int k_sb])), (v_sb, .inl (g 2, c_sb, .inl f_sb))] sz)) 1 2000 (va_A [(a_this_, .inr (0, [.null, .int 0, .int 0, .int 0])), (a_sb, .inr (1, [.ref v_sb, .int 0, .int 0, .int k_sb])), (v_sb, .inl (g 2, c_sb, .inl f_sb))] sz) := by
  refine Met.ofW (cc := cJ0_init_db425) (maxL := 5) (ret := none) (by decide) rfl ?_
  intro p e s m args below meth c s₁ B hml hv
  obtain ⟨rfl, hsz, hP, hK, hD0, hG⟩ := hv
  have hx := B.exec
  have hb := B.bytes
  have hr := B.returns
  have hts := atoms_spec (ws := wqJ0_init_db425) B.pre
  have hown : s.vm.findClass RJ0 = some m.cls := findClass_of_methodNamed B.named
  have hlocks := B.notSynchronized
  subst hsz
  have hD := hD0.self (sz := s.heap.size)
  generalize hAe : va_A [(a_this_, .inr (0, [.null, .int 0, .int 0, .int 0])), (a_sb, .inr (1, [.ref v_sb, .int 0, .int 0, .int k_sb])), (v_sb, .inl (g 2, c_sb, .inl f_sb))] s.heap.size = A at hD hG ⊢
  have hA : ∀ q : Nat, s.heap.size ≤ q → A q := fun q h => by rw [← hAe]; exact Or.inr h
  have hS : va_S A s.heap s.heap [] := va_S.rf
  have hrc : (headSpec wqJ0_init_db425 ({ frames := 3, cells := 1, slots := 2000, locals := 106 })).room.cells = 1 := rfl
  have hrs : (headSpec wqJ0_init_db425 ({ frames := 3, cells := 1, slots := 2000, locals := 106 })).room.slots = 2000 := rfl
  have hin : meth.name = "<init>" := (name_of_methodNamed B.named B.method).1
  have hl := lv_entry ([.ref a_this_, .ref a_sb, .null]) (n := 5) (Nat.le_of_ble_eq_true rfl)
  rw [lg_entry_eq]
  generalize (lg_sl ([.ref a_this_, .ref a_sb, .null]) ++ List.replicate (5 - (lg_sl ([.ref a_this_, .ref a_sb, .null])).length) Slot.unset).toArray = ls at hl ⊢
  have hl : lv_has ls 5 [(0, .ref a_this_), (1, .ref a_sb), (2, .null)] := hl
  unfold wp_J0_init_db425 at hw
  have hml1 := hts (Cond.methodLink RJ0 1 objectInit) (aw_l aw_7_72)
  have hoi := hts (Cond.instanceMethod objectInit) (aw_l aw_1_38)
  have hoc := hts (Cond.code objectInit ⟨#[0xb1]⟩ 1 none) (aw_l aw_1_39)
  have hf15 := hts (Cond.fieldLink RJ0 15 "java/lang/String" "coder" "B") (aw_l aw_7_108)
  have hiJ0 : ∀ w ∈ u_ws RJ0 TJ0 4, w ∈ wqJ0_init_db425 := fun w h => aw_l (aw_wsJ00 w h)
  have hf9 := hts (Cond.fieldLink RJ0 9 "java/lang/String" "value" "[B") (aw_l aw_7_107)
  refine lv_aload_n hx hb dJ0_init_db425_0 rfl (lv_at hl 0 rfl) ?_
  refine W.objInit hx hb hown hml1 hoi hoc rfl (by rw [hml]; exact hl.1) rfl dJ0_init_db425_1 (Nat.le_of_ble_eq_true rfl) (Nat.le_of_ble_eq_true rfl) ?_
  refine W.eq (g2 := F0 m 4 ls []) rfl ?_
  refine lv_aload_n hx hb dJ0_init_db425_4 rfl (lv_at hl 1 rfl) ?_
  obtain ⟨hPs, hDs⟩ := seg_call (segs := [[(a_this_, .inr (0, [.null, .int 0, .int 0, .int 0]))], [(a_sb, .inr (1, [.ref v_sb, .int 0, .int 0, .int k_sb]))], [(v_sb, .inl (g 2, c_sb, .inl f_sb))]]) [[(a_this_, .inr (0, [.null, .int 0, .int 0, .int 0]))]] [[(a_sb, .inr (1, [.ref v_sb, .int 0, .int 0, .int k_sb]))], [(v_sb, .inl (g 2, c_sb, .inl f_sb))]] 3 [0, 1, 2] rfl rfl (by decide) hP hD
  have hPc : va_P (dC, dI) vwCl [(a_sb, .inr (1, [.ref v_sb, .int 0, .int 0, .int k_sb])), (v_sb, .inl (g 2, c_sb, .inl f_sb))] s.heap := P_r hPs
  have hDc : va_D A [(a_sb, .inr (1, [.ref v_sb, .int 0, .int 0, .int k_sb])), (v_sb, .inl (g 2, c_sb, .inl f_sb))] := D_r hDs
  have hFc : ∀ q, va_A [(a_sb, .inr (1, [.ref v_sb, .int 0, .int 0, .int k_sb])), (v_sb, .inl (g 2, c_sb, .inl f_sb))] s.heap.size q → A q := A_all hDc hA hS.1
  refine va_callq (va_runU (As := []) (rest := []) ⟨hx, hb, hml, hown, hts⟩ (c_J5_getValue_6d5f1 l dC dI g (a_this_ := a_sb) (v_this_ := v_sb) (c_this_ := c_sb) (f_this_ := f_sb) (k_this_ := k_sb) (hw := hw) (sz := s.heap.size)) (va_cwU 0 hts (gqU aw_7_73 aw_7_75 aw_7_76 aw_7_74 aw_1_25 aw_7_77) rfl rfl rfl rfl (by decide +kernel) ⟨Nat.le_of_ble_eq_true rfl, Nat.le_of_ble_eq_true rfl⟩) ⟨PG_blind, va_recv hK hP (ci := 1) (q0 := 1) rfl rfl, PG_call hK hG hS hPc hDc hFc⟩ rfl rfl hl.1 rfl (lv_room (Nat.le_of_ble_eq_true rfl)) dJ0_init_db425_5 ⟨by rw [hrc]; omega, by rw [hrs]; omega⟩) hS (fun q _ h => hFc q h) hFc (fun r_3 u_3 t_3 H_3 L_3 ht_3 hvm_3 hw_3 hB_3 hz_3 hk_3 hS => ?_)
  obtain ⟨rfl, hw⟩ := hw_3
  rw [ht_3] at hB_3
  obtain ⟨hP1, hD1⟩ := hB_3
  obtain ⟨hP, hD⟩ := join_r hPs hDs hk_3 hFc hP1 hD1
  obtain ⟨hP, hD⟩ := seg_join [[(a_this_, .inr (0, [.null, .int 0, .int 0, .int 0]))]] [[(a_sb, .inr (1, [.ref v_sb, .int 0, .int 0, .int k_sb]))], [(v_sb, .inl (g 2, c_sb, .inl f_sb))]] [[(a_this_, .inr (0, [.null, .int 0, .int 0, .int 0]))], [(a_sb, .inr (1, [.ref v_sb, .int 0, .int 0, .int k_sb]))], [(v_sb, .inl (g 2, c_sb, .inl f_sb))]] 3 [0, 1, 2] rfl rfl (by decide) hP hD
  have hP : va_P (dC, dI) vwCl [(a_this_, .inr (0, [.null, .int 0, .int 0, .int 0])), (a_sb, .inr (1, [.ref v_sb, .int 0, .int 0, .int k_sb])), (v_sb, .inl (g 2, c_sb, .inl f_sb))] H_3 := hP
  have hD : va_D A [(a_this_, .inr (0, [.null, .int 0, .int 0, .int 0])), (a_sb, .inr (1, [.ref v_sb, .int 0, .int 0, .int k_sb])), (v_sb, .inl (g 2, c_sb, .inl f_sb))] := hD
  refine W.widen (k := 0) (n := 0) (by omega) (by omega) ?_
  refine lv_astore_n (lv' := [(3, .ref v_sb), (0, .ref a_this_), (1, .ref a_sb), (2, .null)]) hx hb dJ0_init_db425_8 rfl hl (by decide) rfl (fun ls hl => ?_)
  refine lv_aload_n hx hb dJ0_init_db425_9 rfl (lv_at hl 2 rfl) ?_
  obtain ⟨hPs, hDs⟩ := seg_call (segs := [[(a_this_, .inr (0, [.null, .int 0, .int 0, .int 0]))], [(a_sb, .inr (1, [.ref v_sb, .int 0, .int 0, .int k_sb]))], [(v_sb, .inl (g 2, c_sb, .inl f_sb))]]) [[(a_this_, .inr (0, [.null, .int 0, .int 0, .int 0]))]] [[(a_sb, .inr (1, [.ref v_sb, .int 0, .int 0, .int k_sb]))], [(v_sb, .inl (g 2, c_sb, .inl f_sb))]] 3 [0, 1, 2] rfl rfl (by decide) hP hD
  have hPc : va_P (dC, dI) vwCl [(a_sb, .inr (1, [.ref v_sb, .int 0, .int 0, .int k_sb])), (v_sb, .inl (g 2, c_sb, .inl f_sb))] H_3 := P_r hPs
  have hDc : va_D A [(a_sb, .inr (1, [.ref v_sb, .int 0, .int 0, .int k_sb])), (v_sb, .inl (g 2, c_sb, .inl f_sb))] := D_r hDs
  have hFc : ∀ q, va_A [(a_sb, .inr (1, [.ref v_sb, .int 0, .int 0, .int k_sb])), (v_sb, .inl (g 2, c_sb, .inl f_sb))] H_3.size q → A q := A_all hDc hA hS.1
  refine va_calli (va_runU (As := []) (rest := []) ⟨hx, hb, hml, hown, hts⟩ (c_J4_length_8abf5 l dC dI g (a_this_ := a_sb) (v_this_ := v_sb) (c_this_ := c_sb) (f_this_ := f_sb) (k_this_ := k_sb) (hw := hw) (sz := H_3.size)) (va_cwO 0 hts (gqO aw_7_78 aw_7_222 aw_7_14 aw_7_224 aw_7_10 aw_1_26 aw_7_12) rfl rfl rfl (aw_l aw_7_15) (by decide +kernel) ⟨Nat.le_of_ble_eq_true rfl, Nat.le_of_ble_eq_true rfl⟩) ⟨PG_blind, va_recv hK hP (ci := 1) (q0 := 1) rfl rfl, PG_call hK hG hS hPc hDc hFc⟩ rfl rfl hl.1 rfl (lv_room (Nat.le_of_ble_eq_true rfl)) dJ0_init_db425_10 ⟨by rw [hrc]; omega, by rw [hrs]; omega⟩) hS (fun q _ h => hFc q h) hFc (fun r_5 u_5 t_5 H_5 L_5 ht_5 hvm_5 hw_5 hB_5 hz_5 hk_5 hS => ?_)
  have hw := hw_5
  rw [ht_5] at hB_5
  obtain ⟨hP1, hD1⟩ := hB_5
  obtain ⟨hP, hD⟩ := join_r hPs hDs hk_5 hFc hP1 hD1
  obtain ⟨hP, hD⟩ := seg_join [[(a_this_, .inr (0, [.null, .int 0, .int 0, .int 0]))]] [[(a_sb, .inr (1, [.ref v_sb, .int 0, .int 0, .int k_sb]))], [(v_sb, .inl (g 2, c_sb, .inl f_sb))]] [[(a_this_, .inr (0, [.null, .int 0, .int 0, .int 0]))], [(a_sb, .inr (1, [.ref v_sb, .int 0, .int 0, .int k_sb]))], [(v_sb, .inl (g 2, c_sb, .inl f_sb))]] 3 [0, 1, 2] rfl rfl (by decide) hP hD
  have hP : va_P (dC, dI) vwCl [(a_this_, .inr (0, [.null, .int 0, .int 0, .int 0])), (a_sb, .inr (1, [.ref v_sb, .int 0, .int 0, .int k_sb])), (v_sb, .inl (g 2, c_sb, .inl f_sb))] H_5 := hP
  have hD : va_D A [(a_this_, .inr (0, [.null, .int 0, .int 0, .int 0])), (a_sb, .inr (1, [.ref v_sb, .int 0, .int 0, .int k_sb])), (v_sb, .inl (g 2, c_sb, .inl f_sb))] := hD
  refine W.widen (k := 0) (n := 0) (by omega) (by omega) ?_
  refine lv_istore (lv' := [(4, .int r_5), (3, .ref v_sb), (0, .ref a_this_), (1, .ref a_sb), (2, .null)]) hx hb dJ0_init_db425_13 hl (by decide) rfl (fun ls hl => ?_)
  refine lv_aload_n hx hb dJ0_init_db425_15 rfl (lv_at hl 3 rfl) ?_
  obtain ⟨hPs, hDs⟩ := seg_call (segs := [[(a_this_, .inr (0, [.null, .int 0, .int 0, .int 0]))], [(a_sb, .inr (1, [.ref v_sb, .int 0, .int 0, .int k_sb]))], [(v_sb, .inl (g 2, c_sb, .inl f_sb))]]) [[(a_this_, .inr (0, [.null, .int 0, .int 0, .int 0]))]] [[(a_sb, .inr (1, [.ref v_sb, .int 0, .int 0, .int k_sb]))], [(v_sb, .inl (g 2, c_sb, .inl f_sb))]] 3 [0, 1, 2] rfl rfl (by decide) hP hD
  have hPc : va_P (dC, dI) vwCl [(a_sb, .inr (1, [.ref v_sb, .int 0, .int 0, .int k_sb])), (v_sb, .inl (g 2, c_sb, .inl f_sb))] H_5 := P_r hPs
  have hDc : va_D A [(a_sb, .inr (1, [.ref v_sb, .int 0, .int 0, .int k_sb])), (v_sb, .inl (g 2, c_sb, .inl f_sb))] := D_r hDs
  have hFc : ∀ q, va_A [(a_sb, .inr (1, [.ref v_sb, .int 0, .int 0, .int k_sb])), (v_sb, .inl (g 2, c_sb, .inl f_sb))] H_5.size q → A q := A_all hDc hA hS.1
  refine va_calli (va_runU (As := []) (rest := []) ⟨hx, hb, hml, hown, hts⟩ (c_J5_isLatin1_aae02 l dC dI g (a_this_ := a_sb) (v_this_ := v_sb) (c_this_ := c_sb) (f_this_ := f_sb) (k_this_ := k_sb) (hw := hw) (sz := H_5.size)) (va_cwU 0 hts (gqU aw_7_79 aw_6_181 aw_6_182 aw_6_180 aw_1_25 aw_6_183) rfl rfl rfl rfl (by decide +kernel) ⟨Nat.le_of_ble_eq_true rfl, Nat.le_of_ble_eq_true rfl⟩) ⟨PG_blind, va_recv hK hP (ci := 1) (q0 := 1) rfl rfl, PG_call hK hG hS hPc hDc hFc⟩ rfl rfl hl.1 rfl (lv_room (Nat.le_of_ble_eq_true rfl)) dJ0_init_db425_16 ⟨by rw [hrc]; omega, by rw [hrs]; omega⟩) hS (fun q _ h => hFc q h) hFc (fun r_7 u_7 t_7 H_7 L_7 ht_7 hvm_7 hw_7 hB_7 hz_7 hk_7 hS => ?_)
  obtain ⟨b_7, rfl, hw⟩ := hw_7
  obtain ⟨rfl, hw⟩ := hw
  rw [ht_7] at hB_7
  obtain ⟨hP1, hD1⟩ := hB_7
  obtain ⟨hP, hD⟩ := join_r hPs hDs hk_7 hFc hP1 hD1
  obtain ⟨hP, hD⟩ := seg_join [[(a_this_, .inr (0, [.null, .int 0, .int 0, .int 0]))]] [[(a_sb, .inr (1, [.ref v_sb, .int 0, .int 0, .int k_sb]))], [(v_sb, .inl (g 2, c_sb, .inl f_sb))]] [[(a_this_, .inr (0, [.null, .int 0, .int 0, .int 0]))], [(a_sb, .inr (1, [.ref v_sb, .int 0, .int 0, .int k_sb]))], [(v_sb, .inl (g 2, c_sb, .inl f_sb))]] 3 [0, 1, 2] rfl rfl (by decide) hP hD
  have hP : va_P (dC, dI) vwCl [(a_this_, .inr (0, [.null, .int 0, .int 0, .int 0])), (a_sb, .inr (1, [.ref v_sb, .int 0, .int 0, .int k_sb])), (v_sb, .inl (g 2, c_sb, .inl f_sb))] H_7 := hP
  have hD : va_D A [(a_this_, .inr (0, [.null, .int 0, .int 0, .int 0])), (a_sb, .inr (1, [.ref v_sb, .int 0, .int 0, .int k_sb])), (v_sb, .inl (g 2, c_sb, .inl f_sb))] := hD
  refine W.eq (g2 := F0 m 19 ls [.int 1]) rfl ?_
  refine W.widen (k := 0) (n := 0) (by omega) (by omega) ?_
  refine lv_if_eq (tgt := 41) hx hb dJ0_init_db425_19 (by decide) (fun c_8 => absurd c_8 (by decide)) (fun _ => ?_)
  refine lv_aload_n hx hb dJ0_init_db425_22 rfl (lv_at hl 2 rfl) ?_
  refine lv_iconst (v := 0) hx hb dJ0_init_db425_23 (by decide) ?_
  refine va_putF (D := (dC, dI)) (ci := 0) (v := .int 0) (ty := .byte) (C := RJ0) (T := TJ0) (N := 4) hx hb hts hiJ0 tyJ0 tyJ0_ok nmJ0 hown hK hP hD hS 0 rfl rfl 1 (by decide) hf15 (fun _ h9 => h9) rfl hin rfl (by decide +kernel) rfl rfl (Nat.le_of_ble_eq_true rfl) dJ0_init_db425_24 (fun H_9 L_10 hP hD hS => ?_)
  have hP : va_P (dC, dI) vwCl [(a_this_, .inr (0, [.null, .int 0, .int 0, .int 0])), (a_sb, .inr (1, [.ref v_sb, .int 0, .int 0, .int k_sb])), (v_sb, .inl (g 2, c_sb, .inl f_sb))] H_9 := hP
  have hD : va_D A [(a_this_, .inr (0, [.null, .int 0, .int 0, .int 0])), (a_sb, .inr (1, [.ref v_sb, .int 0, .int 0, .int k_sb])), (v_sb, .inl (g 2, c_sb, .inl f_sb))] := hD
  refine lv_aload_n hx hb dJ0_init_db425_27 rfl (lv_at hl 2 rfl) ?_
  refine lv_aload_n hx hb dJ0_init_db425_28 rfl (lv_at hl 1 rfl) ?_
  refine lv_iconst (v := 0) hx hb dJ0_init_db425_29 (by decide) ?_
  refine lv_iload hx hb dJ0_init_db425_30 (lv_at hl 0 rfl) ?_
  obtain ⟨hPs, hDs⟩ := seg_call (segs := [[(a_this_, .inr (0, [.null, .int 0, .int 0, .int 0]))], [(a_sb, .inr (1, [.ref v_sb, .int 0, .int 0, .int k_sb]))], [(v_sb, .inl (g 2, c_sb, .inl f_sb))]]) [[(a_this_, .inr (0, [.null, .int 0, .int 0, .int 0]))], [(a_sb, .inr (1, [.ref v_sb, .int 0, .int 0, .int k_sb]))]] [[(v_sb, .inl (g 2, c_sb, .inl f_sb))]] 3 [0, 1, 2] rfl rfl (by decide) hP hD
  have hPc : va_P (dC, dI) vwCl [(v_sb, .inl (g 2, c_sb, .inl f_sb))] H_9 := P_r hPs
  have hDc : va_D A [(v_sb, .inl (g 2, c_sb, .inl f_sb))] := D_r hDs
  have hFc : ∀ q, va_A [(v_sb, .inl (g 2, c_sb, .inl f_sb))] H_9.size q → A q := A_all hDc hA hS.1
  refine va_callq (va_runS (As := [.ref v_sb, .int 0, .int r_5]) (rest := [.ref a_this_]) ⟨hx, hb, hml, hown, hts⟩ (c_J7_copyOfRange_39247 l dC dI g (a_a_ := v_sb) (n_a_ := c_sb) (a_ := f_sb) (f_ := 0) (t_ := r_5) (hw := hw) (sz := H_9.size)) (va_cwS 3 hts (gqS aw_7_80 aw_7_81 aw_1_28 aw_7_82) rfl rfl rfl (by decide +kernel) ⟨Nat.le_of_ble_eq_true rfl, Nat.le_of_ble_eq_true rfl⟩) ⟨PG_blind, PG_call hK hG hS hPc hDc hFc⟩ rfl rfl hl.1 rfl (lv_room (Nat.le_of_ble_eq_true rfl)) dJ0_init_db425_32 ⟨by rw [hrc]; omega, by rw [hrs]; omega⟩) hS (fun q _ h => hFc q h) hFc (fun r_12 u_12 t_12 H_12 L_12 ht_12 hvm_12 hw_12 hB_12 hz_12 hk_12 hS => ?_)
  obtain ⟨a_q_13, n_14, f_15, u_12⟩ := u_12
  obtain ⟨rfl, hw⟩ := hw_12
  rw [ht_12] at hB_12
  obtain ⟨hP1, hD1⟩ := hB_12
  obtain ⟨hP, hD⟩ := join_r hPs hDs hk_12 hFc hP1 hD1
  obtain ⟨hP, hD⟩ := seg_join [[(a_this_, .inr (0, [.null, .int 0, .int 0, .int 0]))], [(a_sb, .inr (1, [.ref v_sb, .int 0, .int 0, .int k_sb]))]] [[(v_sb, .inl (g 2, c_sb, .inl f_sb))], [(a_q_13, .inl (g 2, n_14, .inl f_15))]] [[(a_this_, .inr (0, [.null, .int 0, .int 0, .int 0]))], [(a_sb, .inr (1, [.ref v_sb, .int 0, .int 0, .int k_sb]))], [(v_sb, .inl (g 2, c_sb, .inl f_sb))], [(a_q_13, .inl (g 2, n_14, .inl f_15))]] 4 [0, 1, 2, 3] rfl rfl (by decide) hP hD
  have hP : va_P (dC, dI) vwCl [(a_this_, .inr (0, [.null, .int 0, .int 0, .int 0])), (a_sb, .inr (1, [.ref v_sb, .int 0, .int 0, .int k_sb])), (v_sb, .inl (g 2, c_sb, .inl f_sb)), (a_q_13, .inl (g 2, n_14, .inl f_15))] H_12 := hP
  have hD : va_D A [(a_this_, .inr (0, [.null, .int 0, .int 0, .int 0])), (a_sb, .inr (1, [.ref v_sb, .int 0, .int 0, .int k_sb])), (v_sb, .inl (g 2, c_sb, .inl f_sb)), (a_q_13, .inl (g 2, n_14, .inl f_15))] := hD
  refine W.widen (k := 1) (n := 2000) (by omega) (by omega) ?_
  refine va_putF (D := (dC, dI)) (ci := 0) (v := .ref a_q_13) (ty := .array .byte) (C := RJ0) (T := TJ0) (N := 4) hx hb hts hiJ0 tyJ0 tyJ0_ok nmJ0 hown hK hP hD hS 0 rfl rfl 0 (by decide) hf9 (fun _ h9 => h9) rfl hin rfl (by decide +kernel) rfl rfl (Nat.le_of_ble_eq_true rfl) dJ0_init_db425_35 (fun H_16 L_17 hP hD hS => ?_)
  have hP : va_P (dC, dI) vwCl [(a_this_, .inr (0, [.ref a_q_13, .int 0, .int 0, .int 0])), (a_sb, .inr (1, [.ref v_sb, .int 0, .int 0, .int k_sb])), (v_sb, .inl (g 2, c_sb, .inl f_sb)), (a_q_13, .inl (g 2, n_14, .inl f_15))] H_16 := hP
  have hD : va_D A [(a_this_, .inr (0, [.ref a_q_13, .int 0, .int 0, .int 0])), (a_sb, .inr (1, [.ref v_sb, .int 0, .int 0, .int k_sb])), (v_sb, .inl (g 2, c_sb, .inl f_sb)), (a_q_13, .inl (g 2, n_14, .inl f_15))] := hD
  refine lv_goto (tgt := 97) hx hb dJ0_init_db425_38 (by decide) ?_
  refine W.widen (k := 1) (n := 2000) (by omega) (by omega) ?_
  obtain ⟨hP, hD⟩ := seg_sub (segs := [[(a_this_, .inr (0, [.ref a_q_13, .int 0, .int 0, .int 0]))], [(a_sb, .inr (1, [.ref v_sb, .int 0, .int 0, .int k_sb]))], [(v_sb, .inl (g 2, c_sb, .inl f_sb))], [(a_q_13, .inl (g 2, n_14, .inl f_15))]]) [[(a_this_, .inr (0, [.ref a_q_13, .int 0, .int 0, .int 0]))], [(a_q_13, .inl (g 2, n_14, .inl f_15))], [(a_sb, .inr (1, [.ref v_sb, .int 0, .int 0, .int k_sb]))], [(v_sb, .inl (g 2, c_sb, .inl f_sb))]] [] 4 [0, 3, 1, 2] rfl rfl (by decide) hP hD
  exact W.vret hx hb hr (fun t ht hW => ⟨⟨(a_q_13, n_14, f_15, ()), rfl, hw, ⟨P_at ht hP, hD⟩⟩, hS.F ht⟩) hS.2.2 dJ0_init_db425_97
theorem dJ0_init_81219_0 : decode cJ0_init_81219 0 = .ok (.aload_n 0, 1) := by decide +kernel
theorem dJ0_init_81219_1 : decode cJ0_init_81219 1 = .ok (.aload_n 1, 1) := by decide +kernel
theorem dJ0_init_81219_2 : decode cJ0_init_81219 2 = .ok (.aconst_null, 1) := by decide +kernel
theorem dJ0_init_81219_3 : decode cJ0_init_81219 3 = .ok (.invokespecial 489, 3) := by decide +kernel
theorem dJ0_init_81219_6 : decode cJ0_init_81219 6 = .ok (.return_, 1) := by decide +kernel

set_option maxHeartbeats 8000000 in
set_option maxRecDepth 100000 in
theorem c_J0_init_81219 (l : Launch) (dC : Nat → ClassId) (dI : Nat → Nat → Nat) (g : Nat → ClassId) (a_this_ : Nat) (a_sb v_sb c_sb : Nat) (f_sb : Nat → Int32) (k_sb : Int32) (Q : Nat → (Nat → Int32) → Prop) (hw : wp_J0_init_81219 c_sb f_sb k_sb Q) (sz : Nat) : Met l yJ0_init_81219 wqJ0_init_81219 ({ frames := 4, cells := 1, slots := 2000, locals := 130 }) (va_Pc [.ref a_this_, .ref a_sb] (PG (dC, dI) g [(a_this_, .inr (0, [.null, .int 0, .int 0, .int 0])), (a_sb, .inr (1, [.ref v_sb, .int 0, .int 0, .int k_sb])), (v_sb, .inl (g 2, c_sb, .inl f_sb))] sz)) (va_Qv (fun (u : Nat × Nat × (Nat → Int32) × Unit) => Q u.2.1 u.2.2.1) (fun (u : Nat × Nat × (Nat → Int32) × Unit) t9 => va_P (dC, dI) vwCl [(a_this_, .inr (0, [.ref u.1, .int 0, .int 0, .int 0])), (u.1, .inl (g 2, u.2.1, .inl u.2.2.1)), (a_sb, .inr (1, [.ref v_sb, .int 0, .int 0, .int k_sb])), (v_sb, .inl (g 2, c_sb, .inl f_sb))] t9.heap ∧ va_D (va_A [(a_this_, .inr (0, [.null, .int 0, .int 0, .int 0])), (a_sb, .inr (1, [.ref v_sb, .int 0, .int 0, .int k_sb])), (v_sb, .inl (g 2, c_sb, .inl f_sb))] sz) [(a_this_, .inr (0, [.ref u.1, .int 0, .int 0, .int 0])), (u.1, .inl (g 2, u.2.1, .inl u.2.2.1)), (a_sb, .inr (1, [.ref v_sb, .int 0, .int 0, .int k_sb])), (v_sb, .inl (g 2, c_sb, .inl f_sb))]) (va_A [(a_this_, .inr (0, [.null, .int 0, .int 0, .int 0])), (a_sb, .inr (1, [.ref v_sb, .int 0, .int 0, .int k_sb])), (v_sb, .inl (g 2, c_sb, .inl f_sb))] sz)) 1 2000 (va_A [(a_this_, .inr (0, [.null, .int 0, .int 0, .int 0])), (a_sb, .inr (1, [.ref v_sb, .int 0, .int 0, .int k_sb])), (v_sb, .inl (g 2, c_sb, .inl f_sb))] sz) := by
  refine Met.ofW (cc := cJ0_init_81219) (maxL := 2) (ret := none) (by decide) rfl ?_
  intro p e s m args below meth c s₁ B hml hv
  obtain ⟨rfl, hsz, hP, hK, hD0, hG⟩ := hv
  have hx := B.exec
  have hb := B.bytes
  have hr := B.returns
  have hts := atoms_spec (ws := wqJ0_init_81219) B.pre
  have hown : s.vm.findClass RJ0 = some m.cls := findClass_of_methodNamed B.named
  have hlocks := B.notSynchronized
  subst hsz
  have hD := hD0.self (sz := s.heap.size)
  generalize hAe : va_A [(a_this_, .inr (0, [.null, .int 0, .int 0, .int 0])), (a_sb, .inr (1, [.ref v_sb, .int 0, .int 0, .int k_sb])), (v_sb, .inl (g 2, c_sb, .inl f_sb))] s.heap.size = A at hD hG ⊢
  have hA : ∀ q : Nat, s.heap.size ≤ q → A q := fun q h => by rw [← hAe]; exact Or.inr h
  have hS : va_S A s.heap s.heap [] := va_S.rf
  have hrc : (headSpec wqJ0_init_81219 ({ frames := 4, cells := 1, slots := 2000, locals := 130 })).room.cells = 1 := rfl
  have hrs : (headSpec wqJ0_init_81219 ({ frames := 4, cells := 1, slots := 2000, locals := 130 })).room.slots = 2000 := rfl
  have hl := lv_entry ([.ref a_this_, .ref a_sb]) (n := 2) (Nat.le_of_ble_eq_true rfl)
  rw [lg_entry_eq]
  generalize (lg_sl ([.ref a_this_, .ref a_sb]) ++ List.replicate (2 - (lg_sl ([.ref a_this_, .ref a_sb])).length) Slot.unset).toArray = ls at hl ⊢
  have hl : lv_has ls 2 [(0, .ref a_this_), (1, .ref a_sb)] := hl
  unfold wp_J0_init_81219 at hw
  have hiniJ0 := hts (Cond.initialized RJ0) (aw_l aw_1_21)
  have himJ0_init_db425 := hts (Cond.instanceMethod yJ0_init_db425) (aw_l aw_7_70)
  have hml489 := hts (Cond.methodLink RJ0 489 yJ0_init_db425) (aw_l aw_7_69)
  refine lv_aload_n hx hb dJ0_init_81219_0 rfl (lv_at hl 0 rfl) ?_
  refine lv_aload_n hx hb dJ0_init_81219_1 rfl (lv_at hl 1 rfl) ?_
  refine lv_null hx hb dJ0_init_81219_2 ?_
  obtain ⟨hPs, hDs⟩ := seg_call (segs := [[(a_this_, .inr (0, [.null, .int 0, .int 0, .int 0]))], [(a_sb, .inr (1, [.ref v_sb, .int 0, .int 0, .int k_sb]))], [(v_sb, .inl (g 2, c_sb, .inl f_sb))]]) [] [[(a_this_, .inr (0, [.null, .int 0, .int 0, .int 0]))], [(a_sb, .inr (1, [.ref v_sb, .int 0, .int 0, .int k_sb]))], [(v_sb, .inl (g 2, c_sb, .inl f_sb))]] 3 [0, 1, 2] rfl rfl (by decide) hP hD
  have hPc : va_P (dC, dI) vwCl [(a_this_, .inr (0, [.null, .int 0, .int 0, .int 0])), (a_sb, .inr (1, [.ref v_sb, .int 0, .int 0, .int k_sb])), (v_sb, .inl (g 2, c_sb, .inl f_sb))] s.heap := P_r hPs
  have hDc : va_D A [(a_this_, .inr (0, [.null, .int 0, .int 0, .int 0])), (a_sb, .inr (1, [.ref v_sb, .int 0, .int 0, .int k_sb])), (v_sb, .inl (g 2, c_sb, .inl f_sb))] := D_r hDs
  have hFc : ∀ q, va_A [(a_this_, .inr (0, [.null, .int 0, .int 0, .int 0])), (a_sb, .inr (1, [.ref v_sb, .int 0, .int 0, .int k_sb])), (v_sb, .inl (g 2, c_sb, .inl f_sb))] s.heap.size q → A q := A_all hDc hA hS.1
  refine va_callv (va_runI (As := [.ref a_sb, .null]) (rest := []) ⟨hx, hb, hml, hown, hts⟩ (c_J0_init_db425 l dC dI g (a_this_ := a_this_) (a_sb := a_sb) (v_sb := v_sb) (c_sb := c_sb) (f_sb := f_sb) (k_sb := k_sb) (hw := hw) (sz := s.heap.size)) (cwI 2 hts (gq0 aw_7_71) rfl rfl rfl hiniJ0 hml489 himJ0_init_db425 rfl (by decide +kernel) ⟨Nat.le_of_ble_eq_true rfl, Nat.le_of_ble_eq_true rfl⟩) ⟨PG_blind, PG_call hK hG hS hPc hDc hFc⟩ rfl rfl hl.1 rfl (lv_room (Nat.le_of_ble_eq_true rfl)) dJ0_init_81219_3 ⟨by rw [hrc]; omega, by rw [hrs]; omega⟩) hS (fun q _ h => hFc q h) hFc (fun u_2 t_2 H_2 L_2 ht_2 hvm_2 hw_2 hB_2 hz_2 hk_2 hS => ?_)
  obtain ⟨v_3, n_4, f_5, u_2⟩ := u_2
  have hw := hw_2
  rw [ht_2] at hB_2
  obtain ⟨hP1, hD1⟩ := hB_2
  obtain ⟨hP, hD⟩ := join_r hPs hDs hk_2 hFc hP1 hD1
  obtain ⟨hP, hD⟩ := seg_join [] [[(a_this_, .inr (0, [.ref v_3, .int 0, .int 0, .int 0]))], [(v_3, .inl (g 2, n_4, .inl f_5))], [(a_sb, .inr (1, [.ref v_sb, .int 0, .int 0, .int k_sb]))], [(v_sb, .inl (g 2, c_sb, .inl f_sb))]] [[(a_this_, .inr (0, [.ref v_3, .int 0, .int 0, .int 0]))], [(v_3, .inl (g 2, n_4, .inl f_5))], [(a_sb, .inr (1, [.ref v_sb, .int 0, .int 0, .int k_sb]))], [(v_sb, .inl (g 2, c_sb, .inl f_sb))]] 4 [0, 1, 2, 3] rfl rfl (by decide) hP hD
  have hP : va_P (dC, dI) vwCl [(a_this_, .inr (0, [.ref v_3, .int 0, .int 0, .int 0])), (v_3, .inl (g 2, n_4, .inl f_5)), (a_sb, .inr (1, [.ref v_sb, .int 0, .int 0, .int k_sb])), (v_sb, .inl (g 2, c_sb, .inl f_sb))] H_2 := hP
  have hD : va_D A [(a_this_, .inr (0, [.ref v_3, .int 0, .int 0, .int 0])), (v_3, .inl (g 2, n_4, .inl f_5)), (a_sb, .inr (1, [.ref v_sb, .int 0, .int 0, .int k_sb])), (v_sb, .inl (g 2, c_sb, .inl f_sb))] := hD
  refine W.widen (k := 1) (n := 2000) (by omega) (by omega) ?_
  refine W.widen (k := 1) (n := 2000) (by omega) (by omega) ?_
  exact W.vret hx hb hr (fun t ht hW => ⟨⟨(v_3, n_4, f_5, ()), rfl, hw, ⟨P_at ht hP, hD⟩⟩, hS.F ht⟩) hS.2.2 dJ0_init_81219_6
theorem dJ4_toString_0e30d_0 : decode cJ4_toString_0e30d 0 = .ok (.new 18, 3) := by decide +kernel
theorem dJ4_toString_0e30d_3 : decode cJ4_toString_0e30d 3 = .ok (.dup, 1) := by decide +kernel
theorem dJ4_toString_0e30d_4 : decode cJ4_toString_0e30d 4 = .ok (.aload_n 0, 1) := by decide +kernel
theorem dJ4_toString_0e30d_5 : decode cJ4_toString_0e30d 5 = .ok (.invokespecial 137, 3) := by decide +kernel
theorem dJ4_toString_0e30d_8 : decode cJ4_toString_0e30d 8 = .ok (.areturn, 1) := by decide +kernel

set_option maxHeartbeats 8000000 in
set_option maxRecDepth 100000 in
theorem c_J4_toString_0e30d (l : Launch) (dC : Nat → ClassId) (dI : Nat → Nat → Nat) (g : Nat → ClassId) (a_this_ v_this_ c_this_ : Nat) (f_this_ : Nat → Int32) (k_this_ : Int32) (Q : Nat → (Nat → Int32) → Prop) (hw : wp_J4_toString_0e30d c_this_ f_this_ k_this_ Q) (sz : Nat) : Met l yJ4_toString_0e30d wqJ4_toString_0e30d ({ frames := 5, cells := 2, slots := 2004, locals := 151 }) (va_Pc [.ref a_this_] (PG (dC, dI) g [(a_this_, .inr (1, [.ref v_this_, .int 0, .int 0, .int k_this_])), (v_this_, .inl (g 2, c_this_, .inl f_this_))] sz)) (va_Qq (fun (r : Option Nat) (u : Nat × Nat × Nat × (Nat → Int32) × Unit) => r = some u.1 ∧ (Q u.2.2.1 u.2.2.2.1)) (fun (u : Nat × Nat × Nat × (Nat → Int32) × Unit) t9 => va_P (dC, dI) vwCl [(a_this_, .inr (1, [.ref v_this_, .int 0, .int 0, .int k_this_])), (v_this_, .inl (g 2, c_this_, .inl f_this_)), (u.1, .inr (0, [.ref u.2.1, .int 0, .int 0, .int 0])), (u.2.1, .inl (g 2, u.2.2.1, .inl u.2.2.2.1))] t9.heap ∧ va_D (va_A [(a_this_, .inr (1, [.ref v_this_, .int 0, .int 0, .int k_this_])), (v_this_, .inl (g 2, c_this_, .inl f_this_))] sz) [(a_this_, .inr (1, [.ref v_this_, .int 0, .int 0, .int k_this_])), (v_this_, .inl (g 2, c_this_, .inl f_this_)), (u.1, .inr (0, [.ref u.2.1, .int 0, .int 0, .int 0])), (u.2.1, .inl (g 2, u.2.2.1, .inl u.2.2.2.1))]) (va_A [(a_this_, .inr (1, [.ref v_this_, .int 0, .int 0, .int k_this_])), (v_this_, .inl (g 2, c_this_, .inl f_this_))] sz)) 2 2004 (va_A [(a_this_, .inr (1, [.ref v_this_, .int 0, .int 0, .int k_this_])), (v_this_, .inl (g 2, c_this_, .inl f_this_))] sz) := by
  refine Met.ofW (cc := cJ4_toString_0e30d) (maxL := 1) (ret := (some (.object "java/lang/String"))) (by decide) rfl ?_
  intro p e s m args below meth c s₁ B hml hv
  obtain ⟨rfl, hsz, hP, hK, hD0, hG⟩ := hv
  have hx := B.exec
  have hb := B.bytes
  have hr := B.returns
  have hts := atoms_spec (ws := wqJ4_toString_0e30d) B.pre
  have hown : s.vm.findClass RJ4 = some m.cls := findClass_of_methodNamed B.named
  have hlocks := B.notSynchronized
  subst hsz
  have hD := hD0.self (sz := s.heap.size)
  generalize hAe : va_A [(a_this_, .inr (1, [.ref v_this_, .int 0, .int 0, .int k_this_])), (v_this_, .inl (g 2, c_this_, .inl f_this_))] s.heap.size = A at hD hG ⊢
  have hA : ∀ q : Nat, s.heap.size ≤ q → A q := fun q h => by rw [← hAe]; exact Or.inr h
  have hS : va_S A s.heap s.heap [] := va_S.rf
  have hrc : (headSpec wqJ4_toString_0e30d ({ frames := 5, cells := 2, slots := 2004, locals := 151 })).room.cells = 2 := rfl
  have hrs : (headSpec wqJ4_toString_0e30d ({ frames := 5, cells := 2, slots := 2004, locals := 151 })).room.slots = 2004 := rfl
  have hl := lv_entry ([.ref a_this_]) (n := 1) (Nat.le_of_ble_eq_true rfl)
  rw [lg_entry_eq]
  generalize (lg_sl ([.ref a_this_]) ++ List.replicate (1 - (lg_sl ([.ref a_this_])).length) Slot.unset).toArray = ls at hl ⊢
  have hl : lv_has ls 1 [(0, .ref a_this_)] := hl
  unfold wp_J4_toString_0e30d at hw
  have hcl18 := hts (Cond.classLink RJ4 18 RJ0) (aw_l aw_7_64)
  have hinJ0 := hts (Cond.instantiable RJ0 4) (aw_l aw_7_65)
  have hiniJ0 := hts (Cond.initialized RJ0) (aw_l aw_1_21)
  have hiJ0 : ∀ w ∈ u_ws RJ0 TJ0 4, w ∈ wqJ4_toString_0e30d := fun w h => aw_l (aw_wsJ00 w h)
  have himJ0_init_81219 := hts (Cond.instanceMethod yJ0_init_81219) (aw_l aw_7_67)
  have hml137 := hts (Cond.methodLink RJ4 137 yJ0_init_81219) (aw_l aw_7_66)
  refine va_new (ci := 0) (fs := [.null, .int 0, .int 0, .int 0]) (C := RJ0) (T := TJ0) (N := 4) hx hb hts hiJ0 tyJ0 tyJ0_ok hown hcl18 hinJ0 hiniJ0 hK hP hD hS hA rfl (fun j hj => by rcases (show j = 0 ∨ j = 1 ∨ j = 2 ∨ j = 3 by omega) with rfl | rfl | rfl | rfl <;> rfl) (by rw [hrc]; omega) (by rw [hrs]; omega) dJ4_toString_0e30d_0 (fun a_q_1 H_2 hP hD hS => ?_)
  obtain ⟨hP, hD⟩ := seg_join [[(a_this_, .inr (1, [.ref v_this_, .int 0, .int 0, .int k_this_]))], [(v_this_, .inl (g 2, c_this_, .inl f_this_))]] [[(a_q_1, .inr (0, [.null, .int 0, .int 0, .int 0]))]] [[(a_this_, .inr (1, [.ref v_this_, .int 0, .int 0, .int k_this_]))], [(v_this_, .inl (g 2, c_this_, .inl f_this_))], [(a_q_1, .inr (0, [.null, .int 0, .int 0, .int 0]))]] 3 [0, 1, 2] rfl rfl (by decide) hP hD
  have hP : va_P (dC, dI) vwCl [(a_this_, .inr (1, [.ref v_this_, .int 0, .int 0, .int k_this_])), (v_this_, .inl (g 2, c_this_, .inl f_this_)), (a_q_1, .inr (0, [.null, .int 0, .int 0, .int 0]))] H_2 := hP
  have hD : va_D A [(a_this_, .inr (1, [.ref v_this_, .int 0, .int 0, .int k_this_])), (v_this_, .inl (g 2, c_this_, .inl f_this_)), (a_q_1, .inr (0, [.null, .int 0, .int 0, .int 0]))] := hD
  refine W.widen (k := 1) (n := 4) (by omega) (by omega) ?_
  refine lv_dup hx hb dJ4_toString_0e30d_3 rfl ?_
  refine lv_aload_n hx hb dJ4_toString_0e30d_4 rfl (lv_at hl 0 rfl) ?_
  obtain ⟨hPs, hDs⟩ := seg_call (segs := [[(a_this_, .inr (1, [.ref v_this_, .int 0, .int 0, .int k_this_]))], [(v_this_, .inl (g 2, c_this_, .inl f_this_))], [(a_q_1, .inr (0, [.null, .int 0, .int 0, .int 0]))]]) [] [[(a_q_1, .inr (0, [.null, .int 0, .int 0, .int 0]))], [(a_this_, .inr (1, [.ref v_this_, .int 0, .int 0, .int k_this_]))], [(v_this_, .inl (g 2, c_this_, .inl f_this_))]] 3 [2, 0, 1] rfl rfl (by decide) hP hD
  have hPc : va_P (dC, dI) vwCl [(a_q_1, .inr (0, [.null, .int 0, .int 0, .int 0])), (a_this_, .inr (1, [.ref v_this_, .int 0, .int 0, .int k_this_])), (v_this_, .inl (g 2, c_this_, .inl f_this_))] H_2 := P_r hPs
  have hDc : va_D A [(a_q_1, .inr (0, [.null, .int 0, .int 0, .int 0])), (a_this_, .inr (1, [.ref v_this_, .int 0, .int 0, .int k_this_])), (v_this_, .inl (g 2, c_this_, .inl f_this_))] := D_r hDs
  have hFc : ∀ q, va_A [(a_q_1, .inr (0, [.null, .int 0, .int 0, .int 0])), (a_this_, .inr (1, [.ref v_this_, .int 0, .int 0, .int k_this_])), (v_this_, .inl (g 2, c_this_, .inl f_this_))] H_2.size q → A q := A_all hDc hA hS.1
  refine va_callv (va_runI (As := [.ref a_this_]) (rest := [.ref a_q_1]) ⟨hx, hb, hml, hown, hts⟩ (c_J0_init_81219 l dC dI g (a_this_ := a_q_1) (a_sb := a_this_) (v_sb := v_this_) (c_sb := c_this_) (f_sb := f_this_) (k_sb := k_this_) (hw := hw) (sz := H_2.size)) (cwI 1 hts (gq0 aw_7_68) rfl rfl rfl hiniJ0 hml137 himJ0_init_81219 rfl (by decide +kernel) ⟨Nat.le_of_ble_eq_true rfl, Nat.le_of_ble_eq_true rfl⟩) ⟨PG_blind, PG_call hK hG hS hPc hDc hFc⟩ rfl rfl hl.1 rfl (lv_room (Nat.le_of_ble_eq_true rfl)) dJ4_toString_0e30d_5 ⟨by rw [hrc]; omega, by rw [hrs]; omega⟩) hS (fun q _ h => hFc q h) hFc (fun u_4 t_4 H_4 L_4 ht_4 hvm_4 hw_4 hB_4 hz_4 hk_4 hS => ?_)
  obtain ⟨v_5, n_6, f_7, u_4⟩ := u_4
  have hw := hw_4
  rw [ht_4] at hB_4
  obtain ⟨hP1, hD1⟩ := hB_4
  obtain ⟨hP, hD⟩ := join_r hPs hDs hk_4 hFc hP1 hD1
  obtain ⟨hP, hD⟩ := seg_join [] [[(a_q_1, .inr (0, [.ref v_5, .int 0, .int 0, .int 0]))], [(v_5, .inl (g 2, n_6, .inl f_7))], [(a_this_, .inr (1, [.ref v_this_, .int 0, .int 0, .int k_this_]))], [(v_this_, .inl (g 2, c_this_, .inl f_this_))]] [[(a_this_, .inr (1, [.ref v_this_, .int 0, .int 0, .int k_this_]))], [(v_this_, .inl (g 2, c_this_, .inl f_this_))], [(a_q_1, .inr (0, [.ref v_5, .int 0, .int 0, .int 0]))], [(v_5, .inl (g 2, n_6, .inl f_7))]] 4 [2, 3, 0, 1] rfl rfl (by decide) hP hD
  have hP : va_P (dC, dI) vwCl [(a_this_, .inr (1, [.ref v_this_, .int 0, .int 0, .int k_this_])), (v_this_, .inl (g 2, c_this_, .inl f_this_)), (a_q_1, .inr (0, [.ref v_5, .int 0, .int 0, .int 0])), (v_5, .inl (g 2, n_6, .inl f_7))] H_4 := hP
  have hD : va_D A [(a_this_, .inr (1, [.ref v_this_, .int 0, .int 0, .int k_this_])), (v_this_, .inl (g 2, c_this_, .inl f_this_)), (a_q_1, .inr (0, [.ref v_5, .int 0, .int 0, .int 0])), (v_5, .inl (g 2, n_6, .inl f_7))] := hD
  refine W.widen (k := 2) (n := 2004) (by omega) (by omega) ?_
  refine W.widen (k := 2) (n := 2004) (by omega) (by omega) ?_
  exact W.aret (v := .ref a_q_1) hx hb hr (Or.inl ⟨_, rfl⟩) (Or.inr ⟨_, rfl⟩) (fun t ht hW => ⟨⟨some a_q_1, (a_q_1, v_5, n_6, f_7, ()), rfl, ⟨rfl, hw⟩, ⟨P_at ht hP, hD⟩⟩, hS.F ht⟩) hS.2.2 dJ4_toString_0e30d_8
theorem dX9_init_0 : decode cX9_init 0 = .ok (.aload_n 0, 1) := by decide +kernel
theorem dX9_init_1 : decode cX9_init 1 = .ok (.invokespecial 3, 3) := by decide +kernel
theorem dX9_init_4 : decode cX9_init 4 = .ok (.aload_n 0, 1) := by decide +kernel
theorem dX9_init_5 : decode cX9_init 5 = .ok (.bipush 100, 2) := by decide +kernel
theorem dX9_init_7 : decode cX9_init 7 = .ok (.newarray .int, 2) := by decide +kernel
theorem dX9_init_9 : decode cX9_init 9 = .ok (.putfield 9, 3) := by decide +kernel
theorem dX9_init_12 : decode cX9_init 12 = .ok (.aload_n 0, 1) := by decide +kernel
theorem dX9_init_13 : decode cX9_init 13 = .ok (.iconst 0, 1) := by decide +kernel
theorem dX9_init_14 : decode cX9_init 14 = .ok (.putfield 15, 3) := by decide +kernel
theorem dX9_init_17 : decode cX9_init 17 = .ok (.return_, 1) := by decide +kernel

set_option maxHeartbeats 8000000 in
set_option maxRecDepth 100000 in
theorem c_X9_init (l : Launch) (dC : Nat → ClassId) (dI : Nat → Nat → Nat) (g : Nat → ClassId) (a_this_ : Nat) (Q : Prop) (hw : wp_X9_init Q) (sz : Nat) : Met l yX9_init wqX9_init ({ frames := 1, cells := 1, slots := 100, locals := 12 }) (va_Pc [.ref a_this_] (PG (dC, dI) g [(a_this_, .inr (11, [.null, .int 0]))] sz)) (va_Qv (fun (u : (Nat → Nat) × Unit) => Q) (fun (u : (Nat → Nat) × Unit) t9 => va_P (dC, dI) vwCl (sh_X9 a_this_ u.1 g) t9.heap ∧ va_D (va_A [(a_this_, .inr (11, [.null, .int 0]))] sz) (sh_X9 a_this_ u.1 g)) (va_A [(a_this_, .inr (11, [.null, .int 0]))] sz)) 1 100 (va_A [(a_this_, .inr (11, [.null, .int 0]))] sz) := by
  refine Met.ofW (cc := cX9_init) (maxL := 1) (ret := none) (by decide) rfl ?_
  intro p e s m args below meth c s₁ B hml hv
  obtain ⟨rfl, hsz, hP, hK, hD0, hG⟩ := hv
  have hx := B.exec
  have hb := B.bytes
  have hr := B.returns
  have hts := atoms_spec (ws := wqX9_init) B.pre
  have hown : s.vm.findClass RX9 = some m.cls := findClass_of_methodNamed B.named
  have hlocks := B.notSynchronized
  subst hsz
  have hD := hD0.self (sz := s.heap.size)
  generalize hAe : va_A [(a_this_, .inr (11, [.null, .int 0]))] s.heap.size = A at hD hG ⊢
  have hA : ∀ q : Nat, s.heap.size ≤ q → A q := fun q h => by rw [← hAe]; exact Or.inr h
  have hS : va_S A s.heap s.heap [] := va_S.rf
  have hrc : (headSpec wqX9_init ({ frames := 1, cells := 1, slots := 100, locals := 12 })).room.cells = 1 := rfl
  have hrs : (headSpec wqX9_init ({ frames := 1, cells := 1, slots := 100, locals := 12 })).room.slots = 100 := rfl
  have hin : meth.name = "<init>" := (name_of_methodNamed B.named B.method).1
  have hl := lv_entry ([.ref a_this_]) (n := 1) (Nat.le_of_ble_eq_true rfl)
  rw [lg_entry_eq]
  generalize (lg_sl ([.ref a_this_]) ++ List.replicate (1 - (lg_sl ([.ref a_this_])).length) Slot.unset).toArray = ls at hl ⊢
  have hl : lv_has ls 1 [(0, .ref a_this_)] := hl
  unfold wp_X9_init at hw
  have hml3 := hts (Cond.methodLink RX9 3 objectInit) (aw_l aw_1_64)
  have hoi := hts (Cond.instanceMethod objectInit) (aw_l aw_1_38)
  have hoc := hts (Cond.code objectInit ⟨#[0xb1]⟩ 1 none) (aw_l aw_1_39)
  have hnaint := hts (Cond.arrayClass .int) (aw_l aw_1_57)
  have hf9 := hts (Cond.fieldLink RX9 9 "RunmergeOffice$Tape" "held" "[I") (aw_l aw_1_65)
  have hiX9 : ∀ w ∈ u_ws RX9 TX9 2, w ∈ wqX9_init := fun w h => aw_l (aw_wsX90 w h)
  have hf15 := hts (Cond.fieldLink RX9 15 "RunmergeOffice$Tape" "size" "I") (aw_l aw_1_66)
  refine lv_aload_n hx hb dX9_init_0 rfl (lv_at hl 0 rfl) ?_
  refine W.objInit hx hb hown hml3 hoi hoc rfl (by rw [hml]; exact hl.1) rfl dX9_init_1 (Nat.le_of_ble_eq_true rfl) (Nat.le_of_ble_eq_true rfl) ?_
  refine W.eq (g2 := F0 m 4 ls []) rfl ?_
  refine lv_aload_n hx hb dX9_init_4 rfl (lv_at hl 0 rfl) ?_
  refine lv_bipush (v := 100) hx hb dX9_init_5 (by decide) ?_
  refine va_newa (atype := .int) (a0 := (100, .inl (fun _ => 0))) hx hb hnaint rfl hK hP hD hS hA (fun _ => rfl) (by decide) (N' := 100) (by decide) (Nat.le_of_ble_eq_true rfl) (by rw [hrc]; omega) (by rw [hrs]; omega) dX9_init_7 (fun a_q_2 cA_4 H_3 hK9 hP hD hS => ?_)
  obtain rfl : g 0 = cA_4 := K_one hK9 0 5 rfl rfl
  obtain ⟨hP, hD⟩ := seg_join [[(a_this_, .inr (11, [.null, .int 0]))]] [[(a_q_2, .inl (g 0, 100, .inl (fun _ => 0)))]] [[(a_this_, .inr (11, [.null, .int 0]))], [(a_q_2, .inl (g 0, 100, .inl (fun _ => 0)))]] 2 [0, 1] rfl rfl (by decide) hP hD
  have hP : va_P (dC, dI) vwCl [(a_this_, .inr (11, [.null, .int 0])), (a_q_2, .inl (g 0, 100, .inl (fun _ => 0)))] H_3 := hP
  have hD : va_D A [(a_this_, .inr (11, [.null, .int 0])), (a_q_2, .inl (g 0, 100, .inl (fun _ => 0)))] := hD
  refine W.widen (k := 1) (n := 100) (by omega) (by omega) ?_
  refine va_putF (D := (dC, dI)) (ci := 11) (v := .ref a_q_2) (ty := .array .int) (C := RX9) (T := TX9) (N := 2) hx hb hts hiX9 tyX9 tyX9_ok nmX9 hown hK hP hD hS 0 rfl rfl 0 (by decide) hf9 (fun _ h9 => h9) rfl hin rfl (by decide +kernel) rfl rfl (Nat.le_of_ble_eq_true rfl) dX9_init_9 (fun H_5 L_6 hP hD hS => ?_)
  have hP : va_P (dC, dI) vwCl [(a_this_, .inr (11, [.ref a_q_2, .int 0])), (a_q_2, .inl (g 0, 100, .inl (fun _ => 0)))] H_5 := hP
  have hD : va_D A [(a_this_, .inr (11, [.ref a_q_2, .int 0])), (a_q_2, .inl (g 0, 100, .inl (fun _ => 0)))] := hD
  refine lv_aload_n hx hb dX9_init_12 rfl (lv_at hl 0 rfl) ?_
  refine lv_iconst (v := 0) hx hb dX9_init_13 (by decide) ?_
  refine va_put (D := (dC, dI)) (ci := 11) (v := .int 0) (ty := .int) (C := RX9) (T := TX9) (N := 2) hx hb hts hiX9 tyX9 tyX9_ok nmX9 hown hK hP hD hS 0 rfl rfl 1 (by decide) hf15 (fun _ h9 => h9) rfl (by decide +kernel) rfl rfl (Nat.le_of_ble_eq_true rfl) dX9_init_14 (fun H_7 L_8 hP hD hS => ?_)
  have hP : va_P (dC, dI) vwCl [(a_this_, .inr (11, [.ref a_q_2, .int 0])), (a_q_2, .inl (g 0, 100, .inl (fun _ => 0)))] H_7 := hP
  have hD : va_D A [(a_this_, .inr (11, [.ref a_q_2, .int 0])), (a_q_2, .inl (g 0, 100, .inl (fun _ => 0)))] := hD
  refine W.widen (k := 1) (n := 100) (by omega) (by omega) ?_
  exact W.vret hx hb hr (fun t ht hW => ⟨⟨((fun j => ([a_q_2] : List Nat).getD j 0), ()), rfl, hw, ⟨P_at ht hP, hD⟩⟩, hS.F ht⟩) hS.2.2 dX9_init_17
theorem dX0_init_0 : decode cX0_init 0 = .ok (.aload_n 0, 1) := by decide +kernel
theorem dX0_init_1 : decode cX0_init 1 = .ok (.invokespecial 3, 3) := by decide +kernel
theorem dX0_init_4 : decode cX0_init 4 = .ok (.aload_n 0, 1) := by decide +kernel
theorem dX0_init_5 : decode cX0_init 5 = .ok (.sipush 200, 3) := by decide +kernel
theorem dX0_init_8 : decode cX0_init 8 = .ok (.newarray .int, 2) := by decide +kernel
theorem dX0_init_10 : decode cX0_init 10 = .ok (.putfield 9, 3) := by decide +kernel
theorem dX0_init_13 : decode cX0_init 13 = .ok (.aload_n 0, 1) := by decide +kernel
theorem dX0_init_14 : decode cX0_init 14 = .ok (.sipush 200, 3) := by decide +kernel
theorem dX0_init_17 : decode cX0_init 17 = .ok (.newarray .int, 2) := by decide +kernel
theorem dX0_init_19 : decode cX0_init 19 = .ok (.putfield 15, 3) := by decide +kernel
theorem dX0_init_22 : decode cX0_init 22 = .ok (.aload_n 0, 1) := by decide +kernel
theorem dX0_init_23 : decode cX0_init 23 = .ok (.iconst 0, 1) := by decide +kernel
theorem dX0_init_24 : decode cX0_init 24 = .ok (.putfield 18, 3) := by decide +kernel
theorem dX0_init_27 : decode cX0_init 27 = .ok (.return_, 1) := by decide +kernel

set_option maxHeartbeats 8000000 in
set_option maxRecDepth 100000 in
theorem c_X0_init (l : Launch) (dC : Nat → ClassId) (dI : Nat → Nat → Nat) (g : Nat → ClassId) (a_this_ : Nat) (Q : Prop) (hw : wp_X0_init Q) (sz : Nat) : Met l yX0_init wqX0_init ({ frames := 1, cells := 2, slots := 400, locals := 12 }) (va_Pc [.ref a_this_] (PG (dC, dI) g [(a_this_, .inr (2, [.null, .null, .int 0]))] sz)) (va_Qv (fun (u : (Nat → Nat) × Unit) => Q) (fun (u : (Nat → Nat) × Unit) t9 => va_P (dC, dI) vwCl (sh_X0 a_this_ u.1 g) t9.heap ∧ va_D (va_A [(a_this_, .inr (2, [.null, .null, .int 0]))] sz) (sh_X0 a_this_ u.1 g)) (va_A [(a_this_, .inr (2, [.null, .null, .int 0]))] sz)) 2 400 (va_A [(a_this_, .inr (2, [.null, .null, .int 0]))] sz) := by
  refine Met.ofW (cc := cX0_init) (maxL := 1) (ret := none) (by decide) rfl ?_
  intro p e s m args below meth c s₁ B hml hv
  obtain ⟨rfl, hsz, hP, hK, hD0, hG⟩ := hv
  have hx := B.exec
  have hb := B.bytes
  have hr := B.returns
  have hts := atoms_spec (ws := wqX0_init) B.pre
  have hown : s.vm.findClass RX0 = some m.cls := findClass_of_methodNamed B.named
  have hlocks := B.notSynchronized
  subst hsz
  have hD := hD0.self (sz := s.heap.size)
  generalize hAe : va_A [(a_this_, .inr (2, [.null, .null, .int 0]))] s.heap.size = A at hD hG ⊢
  have hA : ∀ q : Nat, s.heap.size ≤ q → A q := fun q h => by rw [← hAe]; exact Or.inr h
  have hS : va_S A s.heap s.heap [] := va_S.rf
  have hrc : (headSpec wqX0_init ({ frames := 1, cells := 2, slots := 400, locals := 12 })).room.cells = 2 := rfl
  have hrs : (headSpec wqX0_init ({ frames := 1, cells := 2, slots := 400, locals := 12 })).room.slots = 400 := rfl
  have hin : meth.name = "<init>" := (name_of_methodNamed B.named B.method).1
  have hl := lv_entry ([.ref a_this_]) (n := 1) (Nat.le_of_ble_eq_true rfl)
  rw [lg_entry_eq]
  generalize (lg_sl ([.ref a_this_]) ++ List.replicate (1 - (lg_sl ([.ref a_this_])).length) Slot.unset).toArray = ls at hl ⊢
  have hl : lv_has ls 1 [(0, .ref a_this_)] := hl
  unfold wp_X0_init at hw
  have hml3 := hts (Cond.methodLink RX0 3 objectInit) (aw_l aw_1_45)
  have hoi := hts (Cond.instanceMethod objectInit) (aw_l aw_1_38)
  have hoc := hts (Cond.code objectInit ⟨#[0xb1]⟩ 1 none) (aw_l aw_1_39)
  have hnaint := hts (Cond.arrayClass .int) (aw_l aw_1_57)
  have hf9 := hts (Cond.fieldLink RX0 9 "RunmergeOffice$Book" "allKeys" "[I") (aw_l aw_1_46)
  have hiX0 : ∀ w ∈ u_ws RX0 TX0 3, w ∈ wqX0_init := fun w h => aw_l (aw_wsX00 w h)
  have hf15 := hts (Cond.fieldLink RX0 15 "RunmergeOffice$Book" "allMarks" "[I") (aw_l aw_1_47)
  have hf18 := hts (Cond.fieldLink RX0 18 "RunmergeOffice$Book" "count" "I") (aw_l aw_1_48)
  refine lv_aload_n hx hb dX0_init_0 rfl (lv_at hl 0 rfl) ?_
  refine W.objInit hx hb hown hml3 hoi hoc rfl (by rw [hml]; exact hl.1) rfl dX0_init_1 (Nat.le_of_ble_eq_true rfl) (Nat.le_of_ble_eq_true rfl) ?_
  refine W.eq (g2 := F0 m 4 ls []) rfl ?_
  refine lv_aload_n hx hb dX0_init_4 rfl (lv_at hl 0 rfl) ?_
  refine lv_sipush (v := 200) hx hb dX0_init_5 (by decide) ?_
  refine va_newa (atype := .int) (a0 := (200, .inl (fun _ => 0))) hx hb hnaint rfl hK hP hD hS hA (fun _ => rfl) (by decide) (N' := 200) (by decide) (Nat.le_of_ble_eq_true rfl) (by rw [hrc]; omega) (by rw [hrs]; omega) dX0_init_8 (fun a_q_2 cA_4 H_3 hK9 hP hD hS => ?_)
  obtain rfl : g 0 = cA_4 := K_one hK9 0 5 rfl rfl
  obtain ⟨hP, hD⟩ := seg_join [[(a_this_, .inr (2, [.null, .null, .int 0]))]] [[(a_q_2, .inl (g 0, 200, .inl (fun _ => 0)))]] [[(a_this_, .inr (2, [.null, .null, .int 0]))], [(a_q_2, .inl (g 0, 200, .inl (fun _ => 0)))]] 2 [0, 1] rfl rfl (by decide) hP hD
  have hP : va_P (dC, dI) vwCl [(a_this_, .inr (2, [.null, .null, .int 0])), (a_q_2, .inl (g 0, 200, .inl (fun _ => 0)))] H_3 := hP
  have hD : va_D A [(a_this_, .inr (2, [.null, .null, .int 0])), (a_q_2, .inl (g 0, 200, .inl (fun _ => 0)))] := hD
  refine W.widen (k := 1) (n := 200) (by omega) (by omega) ?_
  refine va_putF (D := (dC, dI)) (ci := 2) (v := .ref a_q_2) (ty := .array .int) (C := RX0) (T := TX0) (N := 3) hx hb hts hiX0 tyX0 tyX0_ok nmX0 hown hK hP hD hS 0 rfl rfl 0 (by decide) hf9 (fun _ h9 => h9) rfl hin rfl (by decide +kernel) rfl rfl (Nat.le_of_ble_eq_true rfl) dX0_init_10 (fun H_5 L_6 hP hD hS => ?_)
  have hP : va_P (dC, dI) vwCl [(a_this_, .inr (2, [.ref a_q_2, .null, .int 0])), (a_q_2, .inl (g 0, 200, .inl (fun _ => 0)))] H_5 := hP
  have hD : va_D A [(a_this_, .inr (2, [.ref a_q_2, .null, .int 0])), (a_q_2, .inl (g 0, 200, .inl (fun _ => 0)))] := hD
  refine lv_aload_n hx hb dX0_init_13 rfl (lv_at hl 0 rfl) ?_
  refine lv_sipush (v := 200) hx hb dX0_init_14 (by decide) ?_
  refine va_newa (atype := .int) (a0 := (200, .inl (fun _ => 0))) hx hb hnaint rfl hK hP hD hS hA (fun _ => rfl) (by decide) (N' := 200) (by decide) (Nat.le_of_ble_eq_true rfl) (by rw [hrc]; omega) (by rw [hrs]; omega) dX0_init_17 (fun a_q_7 cA_9 H_8 hK9 hP hD hS => ?_)
  obtain rfl : g 0 = cA_9 := K_one hK9 0 5 rfl rfl
  obtain ⟨hP, hD⟩ := seg_join [[(a_this_, .inr (2, [.ref a_q_2, .null, .int 0]))], [(a_q_2, .inl (g 0, 200, .inl (fun _ => 0)))]] [[(a_q_7, .inl (g 0, 200, .inl (fun _ => 0)))]] [[(a_this_, .inr (2, [.ref a_q_2, .null, .int 0]))], [(a_q_2, .inl (g 0, 200, .inl (fun _ => 0)))], [(a_q_7, .inl (g 0, 200, .inl (fun _ => 0)))]] 3 [0, 1, 2] rfl rfl (by decide) hP hD
  have hP : va_P (dC, dI) vwCl [(a_this_, .inr (2, [.ref a_q_2, .null, .int 0])), (a_q_2, .inl (g 0, 200, .inl (fun _ => 0))), (a_q_7, .inl (g 0, 200, .inl (fun _ => 0)))] H_8 := hP
  have hD : va_D A [(a_this_, .inr (2, [.ref a_q_2, .null, .int 0])), (a_q_2, .inl (g 0, 200, .inl (fun _ => 0))), (a_q_7, .inl (g 0, 200, .inl (fun _ => 0)))] := hD
  refine W.widen (k := 2) (n := 400) (by omega) (by omega) ?_
  refine va_putF (D := (dC, dI)) (ci := 2) (v := .ref a_q_7) (ty := .array .int) (C := RX0) (T := TX0) (N := 3) hx hb hts hiX0 tyX0 tyX0_ok nmX0 hown hK hP hD hS 0 rfl rfl 1 (by decide) hf15 (fun _ h9 => h9) rfl hin rfl (by decide +kernel) rfl rfl (Nat.le_of_ble_eq_true rfl) dX0_init_19 (fun H_10 L_11 hP hD hS => ?_)
  have hP : va_P (dC, dI) vwCl [(a_this_, .inr (2, [.ref a_q_2, .ref a_q_7, .int 0])), (a_q_2, .inl (g 0, 200, .inl (fun _ => 0))), (a_q_7, .inl (g 0, 200, .inl (fun _ => 0)))] H_10 := hP
  have hD : va_D A [(a_this_, .inr (2, [.ref a_q_2, .ref a_q_7, .int 0])), (a_q_2, .inl (g 0, 200, .inl (fun _ => 0))), (a_q_7, .inl (g 0, 200, .inl (fun _ => 0)))] := hD
  refine lv_aload_n hx hb dX0_init_22 rfl (lv_at hl 0 rfl) ?_
  refine lv_iconst (v := 0) hx hb dX0_init_23 (by decide) ?_
  refine va_put (D := (dC, dI)) (ci := 2) (v := .int 0) (ty := .int) (C := RX0) (T := TX0) (N := 3) hx hb hts hiX0 tyX0 tyX0_ok nmX0 hown hK hP hD hS 0 rfl rfl 2 (by decide) hf18 (fun _ h9 => h9) rfl (by decide +kernel) rfl rfl (Nat.le_of_ble_eq_true rfl) dX0_init_24 (fun H_12 L_13 hP hD hS => ?_)
  have hP : va_P (dC, dI) vwCl [(a_this_, .inr (2, [.ref a_q_2, .ref a_q_7, .int 0])), (a_q_2, .inl (g 0, 200, .inl (fun _ => 0))), (a_q_7, .inl (g 0, 200, .inl (fun _ => 0)))] H_12 := hP
  have hD : va_D A [(a_this_, .inr (2, [.ref a_q_2, .ref a_q_7, .int 0])), (a_q_2, .inl (g 0, 200, .inl (fun _ => 0))), (a_q_7, .inl (g 0, 200, .inl (fun _ => 0)))] := hD
  refine W.widen (k := 2) (n := 400) (by omega) (by omega) ?_
  exact W.vret hx hb hr (fun t ht hW => ⟨⟨((fun j => ([a_q_2, a_q_7] : List Nat).getD j 0), ()), rfl, hw, ⟨P_at ht hP, hD⟩⟩, hS.F ht⟩) hS.2.2 dX0_init_27
