theorem dX13_in_0 : decode cX13_in 0 = .ok (.iload_n 0, 1) := by decide +kernel
theorem dX13_in_1 : decode cX13_in 1 = .ok (.iload_n 1, 1) := by decide +kernel
theorem dX13_in_2 : decode cX13_in 2 = .ok (.if_icmp .lt 12, 3) := by decide +kernel
theorem dX13_in_14 : decode cX13_in 14 = .ok (.iconst 0, 1) := by decide +kernel
theorem dX13_in_15 : decode cX13_in 15 = .ok (.ireturn, 1) := by decide +kernel
theorem dX13_in_5 : decode cX13_in 5 = .ok (.iload_n 0, 1) := by decide +kernel
theorem dX13_in_6 : decode cX13_in 6 = .ok (.iload_n 2, 1) := by decide +kernel
theorem dX13_in_7 : decode cX13_in 7 = .ok (.if_icmp .gt 7, 3) := by decide +kernel
theorem dX13_in_10 : decode cX13_in 10 = .ok (.iconst 1, 1) := by decide +kernel
theorem dX13_in_11 : decode cX13_in 11 = .ok (.goto 4, 3) := by decide +kernel
theorem dX13_isTape_0 : decode cX13_isTape 0 = .ok (.iload_n 0, 1) := by decide +kernel
theorem dX13_isTape_1 : decode cX13_isTape 1 = .ok (.iconst 0, 1) := by decide +kernel
theorem dX13_isTape_2 : decode cX13_isTape 2 = .ok (.bipush 7, 2) := by decide +kernel
set_option maxRecDepth 20000 in
theorem ggX13_isTape_X13_in : GoodIn wsX13_isTape wsX13_in := goodIn_r _ [4] (by decide +kernel) (by decide +kernel)
set_option maxRecDepth 20000 in
theorem gX13_isTape_X13_in : GoodIn wsX13_isTape (va_wsS RX13 7 yX13_in wsX13_in) := goodIn_app (goodIn_of _ (by decide +kernel)) ggX13_isTape_X13_in
theorem dX13_isTape_4 : decode cX13_isTape 4 = .ok (.invokestatic 7, 3) := by decide +kernel
theorem dX13_isTape_7 : decode cX13_isTape 7 = .ok (.ireturn, 1) := by decide +kernel
theorem dX13_isKey_0 : decode cX13_isKey 0 = .ok (.iload_n 0, 1) := by decide +kernel
theorem dX13_isKey_1 : decode cX13_isKey 1 = .ok (.sipush (-999), 3) := by decide +kernel
theorem dX13_isKey_4 : decode cX13_isKey 4 = .ok (.sipush 999, 3) := by decide +kernel
set_option maxRecDepth 20000 in
theorem ggX13_isKey_X13_in : GoodIn wsX13_isKey wsX13_in := goodIn_r _ [4] (by decide +kernel) (by decide +kernel)
set_option maxRecDepth 20000 in
theorem gX13_isKey_X13_in : GoodIn wsX13_isKey (va_wsS RX13 7 yX13_in wsX13_in) := goodIn_app (goodIn_of _ (by decide +kernel)) ggX13_isKey_X13_in
theorem dX13_isKey_7 : decode cX13_isKey 7 = .ok (.invokestatic 7, 3) := by decide +kernel
theorem dX13_isKey_10 : decode cX13_isKey 10 = .ok (.ireturn, 1) := by decide +kernel
theorem dX13_isLetter_0 : decode cX13_isLetter 0 = .ok (.iload_n 0, 1) := by decide +kernel
theorem dX13_isLetter_1 : decode cX13_isLetter 1 = .ok (.bipush 97, 2) := by decide +kernel
theorem dX13_isLetter_3 : decode cX13_isLetter 3 = .ok (.bipush 122, 2) := by decide +kernel
set_option maxRecDepth 20000 in
theorem ggX13_isLetter_X13_in : GoodIn wsX13_isLetter wsX13_in := goodIn_r _ [4] (by decide +kernel) (by decide +kernel)
set_option maxRecDepth 20000 in
theorem gX13_isLetter_X13_in : GoodIn wsX13_isLetter (va_wsS RX13 7 yX13_in wsX13_in) := goodIn_app (goodIn_of _ (by decide +kernel)) ggX13_isLetter_X13_in
theorem dX13_isLetter_5 : decode cX13_isLetter 5 = .ok (.invokestatic 7, 3) := by decide +kernel
theorem dX13_isLetter_8 : decode cX13_isLetter 8 = .ok (.ireturn, 1) := by decide +kernel
theorem dX13_isDigit_0 : decode cX13_isDigit 0 = .ok (.iload_n 0, 1) := by decide +kernel
theorem dX13_isDigit_1 : decode cX13_isDigit 1 = .ok (.bipush 48, 2) := by decide +kernel
theorem dX13_isDigit_3 : decode cX13_isDigit 3 = .ok (.bipush 57, 2) := by decide +kernel
set_option maxRecDepth 20000 in
theorem ggX13_isDigit_X13_in : GoodIn wsX13_isDigit wsX13_in := goodIn_r _ [4] (by decide +kernel) (by decide +kernel)
set_option maxRecDepth 20000 in
theorem gX13_isDigit_X13_in : GoodIn wsX13_isDigit (va_wsS RX13 7 yX13_in wsX13_in) := goodIn_app (goodIn_of _ (by decide +kernel)) ggX13_isDigit_X13_in
theorem dX13_isDigit_5 : decode cX13_isDigit 5 = .ok (.invokestatic 7, 3) := by decide +kernel
theorem dX13_isDigit_8 : decode cX13_isDigit 8 = .ok (.ireturn, 1) := by decide +kernel
theorem dX13_passes_0 : decode cX13_passes 0 = .ok (.aload_n 0, 1) := by decide +kernel
theorem dX13_passes_1 : decode cX13_passes 1 = .ok (.iload_n 1, 1) := by decide +kernel
theorem dX13_passes_2 : decode cX13_passes 2 = .ok (.ifCond .ne 7, 3) := by decide +kernel
theorem dX13_passes_9 : decode cX13_passes 9 = .ok (.iload_n 2, 1) := by decide +kernel
theorem dX13_passes_10 : decode cX13_passes 10 = .ok (.ifCond .ne 7, 3) := by decide +kernel
theorem dX13_passes_17 : decode cX13_passes 17 = .ok (.iload_n 3, 1) := by decide +kernel
theorem dX13_passes_18 : decode cX13_passes 18 = .ok (.ifCond .ne 7, 3) := by decide +kernel
theorem dX13_passes_25 : decode cX13_passes 25 = .ok (.iconst 0, 1) := by decide +kernel
theorem dX13_passes_26 : decode cX13_passes 26 = .ok (.putfield 1, 3) := by decide +kernel
theorem dX13_passes_29 : decode cX13_passes 29 = .ok (.aload_n 0, 1) := by decide +kernel
theorem dX13_passes_30 : decode cX13_passes 30 = .ok (.getfield 1, 3) := by decide +kernel
theorem dX13_passes_33 : decode cX13_passes 33 = .ok (.ifCond .ne 7, 3) := by decide +kernel
theorem dX13_passes_36 : decode cX13_passes 36 = .ok (.iconst 1, 1) := by decide +kernel
theorem dX13_passes_37 : decode cX13_passes 37 = .ok (.goto 4, 3) := by decide +kernel
theorem dX13_passes_41 : decode cX13_passes 41 = .ok (.ireturn, 1) := by decide +kernel
theorem dX13_passes_21 : decode cX13_passes 21 = .ok (.iconst 3, 1) := by decide +kernel
theorem dX13_passes_22 : decode cX13_passes 22 = .ok (.goto 4, 3) := by decide +kernel
theorem dX13_passes_40 : decode cX13_passes 40 = .ok (.iconst 0, 1) := by decide +kernel
theorem dX13_passes_13 : decode cX13_passes 13 = .ok (.iconst 2, 1) := by decide +kernel
theorem dX13_passes_14 : decode cX13_passes 14 = .ok (.goto 12, 3) := by decide +kernel
theorem dX13_passes_5 : decode cX13_passes 5 = .ok (.iconst 1, 1) := by decide +kernel
theorem dX13_passes_6 : decode cX13_passes 6 = .ok (.goto 20, 3) := by decide +kernel
set_option maxHeartbeats 4000000 in
set_option maxRecDepth 100000 in
theorem c_X13_in (l : Launch) (dC : Nat → ClassId) (dI : Nat → Nat → Nat) (g : Nat → ClassId) (Wd : va_W) (v : Int32) (lo : Int32) (hi : Int32) (sz : Nat) : Met l yX13_in wsX13_in ({ frames := 0, cells := 0, slots := 0, locals := 0 }) (va_Pc [.int v, .int lo, .int hi] (PG (dC, dI) g Wd sz)) (va_Qi (fun (r : Int32) (_ : Unit) => r = b2i (rngb v lo hi)) (fun (_ : Unit) t => va_P (dC, dI) vwCl Wd t.heap) (va_A Wd sz)) 0 0 (va_A Wd sz) := by
  refine Met.ofW (cc := cX13_in) (maxL := 3) (ret := (some .boolean)) (by decide) rfl ?_
  intro p e s m args below meth c s₁ B hml hv
  obtain ⟨rfl, hsz, hP, hK, hD0, hG⟩ := hv
  have hx := B.exec
  have hb := B.bytes
  have hr := B.returns
  have hts := atoms_spec (ws := wsX13_in) B.pre
  have hown : s.vm.findClass RX13 = some m.cls := findClass_of_methodNamed B.named
  have hlocks := B.notSynchronized
  subst hsz
  have hD := hD0.self (sz := s.heap.size)
  generalize hAe : va_A Wd s.heap.size = A at hD hG ⊢
  have hA : ∀ q : Nat, s.heap.size ≤ q → A q := fun q h => by rw [← hAe]; exact Or.inr h
  have hS : va_S A s.heap s.heap [] := va_S.rf
  have hl := lv_entry ([.int v, .int lo, .int hi]) (n := 3) (Nat.le_of_ble_eq_true rfl)
  rw [lg_entry_eq]
  generalize (lg_sl ([.int v, .int lo, .int hi]) ++ List.replicate (3 - (lg_sl ([.int v, .int lo, .int hi])).length) Slot.unset).toArray = ls at hl ⊢
  have hl : lv_has ls 3 [(0, .int v), (1, .int lo), (2, .int hi)] := hl
  refine lv_iload_n hx hb dX13_in_0 rfl (lv_at hl 0 rfl) ?_
  refine lv_iload_n hx hb dX13_in_1 rfl (lv_at hl 1 rfl) ?_
  refine lv_icmp_lt (tgt := 14) hx hb dX13_in_2 (by decide) (fun c_1 => ?_) (fun c_1 => ?_)
  · refine lv_iconst (v := 0) hx hb dX13_in_14 (by decide) ?_
    exact W.zret (v := 0) hx hb hr rfl (fun t ht hW => ⟨⟨0, (), rfl, by rw [rng_lo c_1]; rfl, P_at ht hP⟩, hS.F ht⟩) hS.2.2 dX13_in_15
  · refine lv_iload_n hx hb dX13_in_5 rfl (lv_at hl 0 rfl) ?_
    refine lv_iload_n hx hb dX13_in_6 rfl (lv_at hl 2 rfl) ?_
    refine lv_icmp_gt (tgt := 14) hx hb dX13_in_7 (by decide) (fun c_2 => ?_) (fun c_2 => ?_)
    · refine lv_iconst (v := 0) hx hb dX13_in_14 (by decide) ?_
      exact W.zret (v := 0) hx hb hr rfl (fun t ht hW => ⟨⟨0, (), rfl, by rw [rng_hi c_2]; rfl, P_at ht hP⟩, hS.F ht⟩) hS.2.2 dX13_in_15
    · refine lv_iconst (v := 1) hx hb dX13_in_10 (by decide) ?_
      refine lv_goto (tgt := 15) hx hb dX13_in_11 (by decide) ?_
      exact W.zret (v := 1) hx hb hr rfl (fun t ht hW => ⟨⟨1, (), rfl, by rw [rng_t c_1 (i_nlt.mpr (i_nlt.mp c_2))]; rfl, P_at ht hP⟩, hS.F ht⟩) hS.2.2 dX13_in_15
set_option maxHeartbeats 4000000 in
set_option maxRecDepth 100000 in
theorem c_X13_isTape (l : Launch) (dC : Nat → ClassId) (dI : Nat → Nat → Nat) (g : Nat → ClassId) (Wd : va_W) (v : Int32) (sz : Nat) : Met l yX13_isTape wsX13_isTape ({ frames := 1, cells := 0, slots := 0, locals := 22 }) (va_Pc [.int v] (PG (dC, dI) g Wd sz)) (va_Qi (fun (r : Int32) (_ : Unit) => r = b2i (TOKb v)) (fun (_ : Unit) t => va_P (dC, dI) vwCl Wd t.heap) (va_A Wd sz)) 0 0 (va_A Wd sz) := by
  refine Met.ofW (cc := cX13_isTape) (maxL := 1) (ret := (some .boolean)) (by decide) rfl ?_
  intro p e s m args below meth c s₁ B hml hv
  obtain ⟨rfl, hsz, hP, hK, hD0, hG⟩ := hv
  have hx := B.exec
  have hb := B.bytes
  have hr := B.returns
  have hts := atoms_spec (ws := wsX13_isTape) B.pre
  have hown : s.vm.findClass RX13 = some m.cls := findClass_of_methodNamed B.named
  have hlocks := B.notSynchronized
  subst hsz
  have hD := hD0.self (sz := s.heap.size)
  generalize hAe : va_A Wd s.heap.size = A at hD hG ⊢
  have hA : ∀ q : Nat, s.heap.size ≤ q → A q := fun q h => by rw [← hAe]; exact Or.inr h
  have hS : va_S A s.heap s.heap [] := va_S.rf
  have hl := lv_entry ([.int v]) (n := 1) (Nat.le_of_ble_eq_true rfl)
  rw [lg_entry_eq]
  generalize (lg_sl ([.int v]) ++ List.replicate (1 - (lg_sl ([.int v])).length) Slot.unset).toArray = ls at hl ⊢
  have hl : lv_has ls 1 [(0, .int v)] := hl
  refine lv_iload_n hx hb dX13_isTape_0 rfl (lv_at hl 0 rfl) ?_
  refine lv_iconst (v := 0) hx hb dX13_isTape_1 (by decide) ?_
  refine lv_bipush (v := 7) hx hb dX13_isTape_2 (by decide) ?_
  refine va_calli (va_runS (As := [.int v, .int 0, .int 7]) (rest := []) ⟨hx, hb, hml, hown, hts⟩ (c_X13_in l dC dI g Wd v 0 7   s.heap.size) (va_cwS 3 hts gX13_isTape_X13_in rfl rfl rfl (by decide +kernel) ⟨Nat.le_of_ble_eq_true rfl, Nat.le_of_ble_eq_true rfl⟩) ⟨PG_blind, PG_call hK hG hS hP hD (A_all hD hA hS.1)⟩ rfl rfl hl.1 rfl (lv_room (Nat.le_of_ble_eq_true rfl)) dX13_isTape_4 ⟨Nat.le_of_ble_eq_true rfl, Nat.le_of_ble_eq_true rfl⟩) hS (fun q _ h => (A_all hD hA hS.1) q h) (A_all hD hA hS.1) (fun r_1 u_1 t_1 H_1 L_1 ht_1 hvm_1 hw_1 hB_1 hz_1 hk_1 hS => ?_)
  replace hB_1 := (show va_P (dC, dI) vwCl Wd t_1.heap from hB_1)
  rw [ht_1] at hB_1
  have hP := hB_1
  obtain rfl : r_1 = b2i (rngb v 0 7) := hw_1
  exact W.zret (v := (b2i (rngb v 0 7))) hx hb hr (by cases hq : ((rngb v 0 7)) <;> rfl) (fun t ht hW => ⟨⟨(b2i (rngb v 0 7)), (), rfl, rfl, P_at ht hP⟩, hS.F ht⟩) hS.2.2 dX13_isTape_7
set_option maxHeartbeats 4000000 in
set_option maxRecDepth 100000 in
theorem c_X13_isKey (l : Launch) (dC : Nat → ClassId) (dI : Nat → Nat → Nat) (g : Nat → ClassId) (Wd : va_W) (v : Int32) (sz : Nat) : Met l yX13_isKey wsX13_isKey ({ frames := 1, cells := 0, slots := 0, locals := 22 }) (va_Pc [.int v] (PG (dC, dI) g Wd sz)) (va_Qi (fun (r : Int32) (_ : Unit) => r = b2i (rngb v (-999) 999)) (fun (_ : Unit) t => va_P (dC, dI) vwCl Wd t.heap) (va_A Wd sz)) 0 0 (va_A Wd sz) := by
  refine Met.ofW (cc := cX13_isKey) (maxL := 1) (ret := (some .boolean)) (by decide) rfl ?_
  intro p e s m args below meth c s₁ B hml hv
  obtain ⟨rfl, hsz, hP, hK, hD0, hG⟩ := hv
  have hx := B.exec
  have hb := B.bytes
  have hr := B.returns
  have hts := atoms_spec (ws := wsX13_isKey) B.pre
  have hown : s.vm.findClass RX13 = some m.cls := findClass_of_methodNamed B.named
  have hlocks := B.notSynchronized
  subst hsz
  have hD := hD0.self (sz := s.heap.size)
  generalize hAe : va_A Wd s.heap.size = A at hD hG ⊢
  have hA : ∀ q : Nat, s.heap.size ≤ q → A q := fun q h => by rw [← hAe]; exact Or.inr h
  have hS : va_S A s.heap s.heap [] := va_S.rf
  have hl := lv_entry ([.int v]) (n := 1) (Nat.le_of_ble_eq_true rfl)
  rw [lg_entry_eq]
  generalize (lg_sl ([.int v]) ++ List.replicate (1 - (lg_sl ([.int v])).length) Slot.unset).toArray = ls at hl ⊢
  have hl : lv_has ls 1 [(0, .int v)] := hl
  refine lv_iload_n hx hb dX13_isKey_0 rfl (lv_at hl 0 rfl) ?_
  refine lv_sipush (v := (-999)) hx hb dX13_isKey_1 (by decide) ?_
  refine lv_sipush (v := 999) hx hb dX13_isKey_4 (by decide) ?_
  refine va_calli (va_runS (As := [.int v, .int (-999), .int 999]) (rest := []) ⟨hx, hb, hml, hown, hts⟩ (c_X13_in l dC dI g Wd v (-999) 999   s.heap.size) (va_cwS 3 hts gX13_isKey_X13_in rfl rfl rfl (by decide +kernel) ⟨Nat.le_of_ble_eq_true rfl, Nat.le_of_ble_eq_true rfl⟩) ⟨PG_blind, PG_call hK hG hS hP hD (A_all hD hA hS.1)⟩ rfl rfl hl.1 rfl (lv_room (Nat.le_of_ble_eq_true rfl)) dX13_isKey_7 ⟨Nat.le_of_ble_eq_true rfl, Nat.le_of_ble_eq_true rfl⟩) hS (fun q _ h => (A_all hD hA hS.1) q h) (A_all hD hA hS.1) (fun r_1 u_1 t_1 H_1 L_1 ht_1 hvm_1 hw_1 hB_1 hz_1 hk_1 hS => ?_)
  replace hB_1 := (show va_P (dC, dI) vwCl Wd t_1.heap from hB_1)
  rw [ht_1] at hB_1
  have hP := hB_1
  obtain rfl : r_1 = b2i (rngb v (-999) 999) := hw_1
  exact W.zret (v := (b2i (rngb v (-999) 999))) hx hb hr (by cases hq : ((rngb v (-999) 999)) <;> rfl) (fun t ht hW => ⟨⟨(b2i (rngb v (-999) 999)), (), rfl, rfl, P_at ht hP⟩, hS.F ht⟩) hS.2.2 dX13_isKey_10
set_option maxHeartbeats 4000000 in
set_option maxRecDepth 100000 in
theorem c_X13_isLetter (l : Launch) (dC : Nat → ClassId) (dI : Nat → Nat → Nat) (g : Nat → ClassId) (Wd : va_W) (v : Int32) (sz : Nat) : Met l yX13_isLetter wsX13_isLetter ({ frames := 1, cells := 0, slots := 0, locals := 22 }) (va_Pc [.int v] (PG (dC, dI) g Wd sz)) (va_Qi (fun (r : Int32) (_ : Unit) => r = b2i (rngb v 97 122)) (fun (_ : Unit) t => va_P (dC, dI) vwCl Wd t.heap) (va_A Wd sz)) 0 0 (va_A Wd sz) := by
  refine Met.ofW (cc := cX13_isLetter) (maxL := 1) (ret := (some .boolean)) (by decide) rfl ?_
  intro p e s m args below meth c s₁ B hml hv
  obtain ⟨rfl, hsz, hP, hK, hD0, hG⟩ := hv
  have hx := B.exec
  have hb := B.bytes
  have hr := B.returns
  have hts := atoms_spec (ws := wsX13_isLetter) B.pre
  have hown : s.vm.findClass RX13 = some m.cls := findClass_of_methodNamed B.named
  have hlocks := B.notSynchronized
  subst hsz
  have hD := hD0.self (sz := s.heap.size)
  generalize hAe : va_A Wd s.heap.size = A at hD hG ⊢
  have hA : ∀ q : Nat, s.heap.size ≤ q → A q := fun q h => by rw [← hAe]; exact Or.inr h
  have hS : va_S A s.heap s.heap [] := va_S.rf
  have hl := lv_entry ([.int v]) (n := 1) (Nat.le_of_ble_eq_true rfl)
  rw [lg_entry_eq]
  generalize (lg_sl ([.int v]) ++ List.replicate (1 - (lg_sl ([.int v])).length) Slot.unset).toArray = ls at hl ⊢
  have hl : lv_has ls 1 [(0, .int v)] := hl
  refine lv_iload_n hx hb dX13_isLetter_0 rfl (lv_at hl 0 rfl) ?_
  refine lv_bipush (v := 97) hx hb dX13_isLetter_1 (by decide) ?_
  refine lv_bipush (v := 122) hx hb dX13_isLetter_3 (by decide) ?_
  refine va_calli (va_runS (As := [.int v, .int 97, .int 122]) (rest := []) ⟨hx, hb, hml, hown, hts⟩ (c_X13_in l dC dI g Wd v 97 122   s.heap.size) (va_cwS 3 hts gX13_isLetter_X13_in rfl rfl rfl (by decide +kernel) ⟨Nat.le_of_ble_eq_true rfl, Nat.le_of_ble_eq_true rfl⟩) ⟨PG_blind, PG_call hK hG hS hP hD (A_all hD hA hS.1)⟩ rfl rfl hl.1 rfl (lv_room (Nat.le_of_ble_eq_true rfl)) dX13_isLetter_5 ⟨Nat.le_of_ble_eq_true rfl, Nat.le_of_ble_eq_true rfl⟩) hS (fun q _ h => (A_all hD hA hS.1) q h) (A_all hD hA hS.1) (fun r_1 u_1 t_1 H_1 L_1 ht_1 hvm_1 hw_1 hB_1 hz_1 hk_1 hS => ?_)
  replace hB_1 := (show va_P (dC, dI) vwCl Wd t_1.heap from hB_1)
  rw [ht_1] at hB_1
  have hP := hB_1
  obtain rfl : r_1 = b2i (rngb v 97 122) := hw_1
  exact W.zret (v := (b2i (rngb v 97 122))) hx hb hr (by cases hq : ((rngb v 97 122)) <;> rfl) (fun t ht hW => ⟨⟨(b2i (rngb v 97 122)), (), rfl, rfl, P_at ht hP⟩, hS.F ht⟩) hS.2.2 dX13_isLetter_8
set_option maxHeartbeats 4000000 in
set_option maxRecDepth 100000 in
theorem c_X13_isDigit (l : Launch) (dC : Nat → ClassId) (dI : Nat → Nat → Nat) (g : Nat → ClassId) (Wd : va_W) (v : Int32) (sz : Nat) : Met l yX13_isDigit wsX13_isDigit ({ frames := 1, cells := 0, slots := 0, locals := 22 }) (va_Pc [.int v] (PG (dC, dI) g Wd sz)) (va_Qi (fun (r : Int32) (_ : Unit) => r = b2i (rngb v 48 57)) (fun (_ : Unit) t => va_P (dC, dI) vwCl Wd t.heap) (va_A Wd sz)) 0 0 (va_A Wd sz) := by
  refine Met.ofW (cc := cX13_isDigit) (maxL := 1) (ret := (some .boolean)) (by decide) rfl ?_
  intro p e s m args below meth c s₁ B hml hv
  obtain ⟨rfl, hsz, hP, hK, hD0, hG⟩ := hv
  have hx := B.exec
  have hb := B.bytes
  have hr := B.returns
  have hts := atoms_spec (ws := wsX13_isDigit) B.pre
  have hown : s.vm.findClass RX13 = some m.cls := findClass_of_methodNamed B.named
  have hlocks := B.notSynchronized
  subst hsz
  have hD := hD0.self (sz := s.heap.size)
  generalize hAe : va_A Wd s.heap.size = A at hD hG ⊢
  have hA : ∀ q : Nat, s.heap.size ≤ q → A q := fun q h => by rw [← hAe]; exact Or.inr h
  have hS : va_S A s.heap s.heap [] := va_S.rf
  have hl := lv_entry ([.int v]) (n := 1) (Nat.le_of_ble_eq_true rfl)
  rw [lg_entry_eq]
  generalize (lg_sl ([.int v]) ++ List.replicate (1 - (lg_sl ([.int v])).length) Slot.unset).toArray = ls at hl ⊢
  have hl : lv_has ls 1 [(0, .int v)] := hl
  refine lv_iload_n hx hb dX13_isDigit_0 rfl (lv_at hl 0 rfl) ?_
  refine lv_bipush (v := 48) hx hb dX13_isDigit_1 (by decide) ?_
  refine lv_bipush (v := 57) hx hb dX13_isDigit_3 (by decide) ?_
  refine va_calli (va_runS (As := [.int v, .int 48, .int 57]) (rest := []) ⟨hx, hb, hml, hown, hts⟩ (c_X13_in l dC dI g Wd v 48 57   s.heap.size) (va_cwS 3 hts gX13_isDigit_X13_in rfl rfl rfl (by decide +kernel) ⟨Nat.le_of_ble_eq_true rfl, Nat.le_of_ble_eq_true rfl⟩) ⟨PG_blind, PG_call hK hG hS hP hD (A_all hD hA hS.1)⟩ rfl rfl hl.1 rfl (lv_room (Nat.le_of_ble_eq_true rfl)) dX13_isDigit_5 ⟨Nat.le_of_ble_eq_true rfl, Nat.le_of_ble_eq_true rfl⟩) hS (fun q _ h => (A_all hD hA hS.1) q h) (A_all hD hA hS.1) (fun r_1 u_1 t_1 H_1 L_1 ht_1 hvm_1 hw_1 hB_1 hz_1 hk_1 hS => ?_)
  replace hB_1 := (show va_P (dC, dI) vwCl Wd t_1.heap from hB_1)
  rw [ht_1] at hB_1
  have hP := hB_1
  obtain rfl : r_1 = b2i (rngb v 48 57) := hw_1
  exact W.zret (v := (b2i (rngb v 48 57))) hx hb hr (by cases hq : ((rngb v 48 57)) <;> rfl) (fun t ht hW => ⟨⟨(b2i (rngb v 48 57)), (), rfl, rfl, P_at ht hP⟩, hS.F ht⟩) hS.2.2 dX13_isDigit_8
set_option maxHeartbeats 4000000 in
set_option maxRecDepth 100000 in
theorem c_X13_passes (l : Launch) (dC : Nat → ClassId) (dI : Nat → Nat → Nat) (g : Nat → ClassId) (b : Nat → Nat) (r1 : Nat → Nat) (r2 : Nat → Nat) (th : Int32) (B1 : Bool) (B2 : Bool) (B3 : Bool) (sz : Nat) : Met l yX13_passes wsX13_passes ({ frames := 0, cells := 0, slots := 0, locals := 0 }) (va_Pc [.ref (b 0), .int (b2i B1), .int (b2i B2), .int (b2i B3)] (PG (dC, dI) g (modW b r1 r2 g th) sz)) (va_Qi (fun (r : Int32) (_ : Unit) => r = b2i (B1 && B2 && B3)) (fun (_ : Unit) t => va_P (dC, dI) vwCl (modW b r1 r2 g (cd B1 B2 B3)) t.heap) (va_A (modW b r1 r2 g th) sz)) 0 0 (va_A (modW b r1 r2 g th) sz) := by
  refine Met.ofW (cc := cX13_passes) (maxL := 4) (ret := (some .boolean)) (by decide) rfl ?_
  intro p e s m args below meth c s₁ B hml hv
  obtain ⟨rfl, hsz, hP, hK, hD0, hG⟩ := hv
  have hx := B.exec
  have hb := B.bytes
  have hr := B.returns
  have hts := atoms_spec (ws := wsX13_passes) B.pre
  have hown : s.vm.findClass RX13 = some m.cls := findClass_of_methodNamed B.named
  have hlocks := B.notSynchronized
  subst hsz
  have hD := hD0.self (sz := s.heap.size)
  generalize hAe : va_A (modW b r1 r2 g th) s.heap.size = A at hD hG ⊢
  have hA : ∀ q : Nat, s.heap.size ≤ q → A q := fun q h => by rw [← hAe]; exact Or.inr h
  have hS : va_S A s.heap s.heap [] := va_S.rf
  have hl := lv_entry ([.ref (b 0), .int (b2i B1), .int (b2i B2), .int (b2i B3)]) (n := 4) (Nat.le_of_ble_eq_true rfl)
  rw [lg_entry_eq]
  generalize (lg_sl ([.ref (b 0), .int (b2i B1), .int (b2i B2), .int (b2i B3)]) ++ List.replicate (4 - (lg_sl ([.ref (b 0), .int (b2i B1), .int (b2i B2), .int (b2i B3)])).length) Slot.unset).toArray = ls at hl ⊢
  have hl : lv_has ls 4 [(0, .ref (b 0)), (1, .int (b2i B1)), (2, .int (b2i B2)), (3, .int (b2i B3))] := hl
  have hf1 := hts (Cond.fieldLink RX13 1 "RunmergeOfficeModel" "thrown" "I") (by decide +kernel)
  have hiX13 : ∀ w ∈ u_ws RX13 TX13 14, w ∈ wsX13_passes := by decide +kernel
  refine lv_aload_n hx hb dX13_passes_0 rfl (lv_at hl 0 rfl) ?_
  refine lv_iload_n hx hb dX13_passes_1 rfl (lv_at hl 1 rfl) ?_
  refine lv_if_ne (tgt := 9) hx hb dX13_passes_2 (by decide) (fun c_1 => ?_) (fun c_1 => ?_)
  · have hB_2 : (B1) = true := b2i_1 c_1
    refine lv_iload_n hx hb dX13_passes_9 rfl (lv_at hl 2 rfl) ?_
    refine lv_if_ne (tgt := 17) hx hb dX13_passes_10 (by decide) (fun c_3 => ?_) (fun c_3 => ?_)
    · have hB_4 : (B2) = true := b2i_1 c_3
      refine lv_iload_n hx hb dX13_passes_17 rfl (lv_at hl 3 rfl) ?_
      refine lv_if_ne (tgt := 25) hx hb dX13_passes_18 (by decide) (fun c_5 => ?_) (fun c_5 => ?_)
      · have hB_6 : (B3) = true := b2i_1 c_5
        refine lv_iconst (v := 0) hx hb dX13_passes_25 (by decide) ?_
        refine va_put (D := (dC, dI)) (ci := 15) (v := .int 0) (ty := .int) (C := RX13) (T := TX13) (N := 14) hx hb hts hiX13 tyX13 tyX13_ok nmX13 hown hK hP hD hS 0 (m_0 b r1 r2 g th) rfl 0 (by decide) hf1 (fun _ h9 => h9) rfl (by decide +kernel) rfl rfl (Nat.le_of_ble_eq_true rfl) dX13_passes_26 (fun H_7 L_8 hP hD hS => ?_)
        have hP : va_P (dC, dI) vwCl (modW b r1 r2 g 0) H_7 := hP
        have hD : va_D A (modW b r1 r2 g 0) := hD
        refine lv_aload_n hx hb dX13_passes_29 rfl (lv_at hl 0 rfl) ?_
        refine va_get (D := (dC, dI)) (ci := 15) (v := .int 0) (C := RX13) (T := TX13) (N := 14) hx hb hts hiX13 hown hK hP 0 (m_0 b r1 r2 g 0) rfl 0 (by decide) hf1 (fun _ h9 => h9) rfl dX13_passes_30 ?_
        refine lv_if_ne (tgt := 40) hx hb dX13_passes_33 (by decide) (fun c_9 => absurd (by decide) c_9) (fun c_9 => ?_)
        refine lv_iconst (v := 1) hx hb dX13_passes_36 (by decide) ?_
        refine lv_goto (tgt := 41) hx hb dX13_passes_37 (by decide) ?_
        rw [show (0 : Int32) = cd B1 B2 B3 from by simp [cd, hB_2, hB_4, hB_6]] at hP
        exact W.zret (v := 1) hx hb hr rfl (fun t ht hW => ⟨⟨1, (), rfl, by simp [b2i, hB_2, hB_4, hB_6], P_at ht hP⟩, hS.F ht⟩) hS.2.2 dX13_passes_41
      · have hB_6 : (B3) = false := b2i_0 c_5
        refine lv_iconst (v := 3) hx hb dX13_passes_21 (by decide) ?_
        refine lv_goto (tgt := 26) hx hb dX13_passes_22 (by decide) ?_
        refine va_put (D := (dC, dI)) (ci := 15) (v := .int 3) (ty := .int) (C := RX13) (T := TX13) (N := 14) hx hb hts hiX13 tyX13 tyX13_ok nmX13 hown hK hP hD hS 0 (m_0 b r1 r2 g th) rfl 0 (by decide) hf1 (fun _ h9 => h9) rfl (by decide +kernel) rfl rfl (Nat.le_of_ble_eq_true rfl) dX13_passes_26 (fun H_10 L_11 hP hD hS => ?_)
        have hP : va_P (dC, dI) vwCl (modW b r1 r2 g 3) H_10 := hP
        have hD : va_D A (modW b r1 r2 g 3) := hD
        refine lv_aload_n hx hb dX13_passes_29 rfl (lv_at hl 0 rfl) ?_
        refine va_get (D := (dC, dI)) (ci := 15) (v := .int 3) (C := RX13) (T := TX13) (N := 14) hx hb hts hiX13 hown hK hP 0 (m_0 b r1 r2 g 3) rfl 0 (by decide) hf1 (fun _ h9 => h9) rfl dX13_passes_30 ?_
        refine lv_if_ne (tgt := 40) hx hb dX13_passes_33 (by decide) (fun c_12 => ?_) (fun c_12 => absurd c_12 (by decide))
        refine lv_iconst (v := 0) hx hb dX13_passes_40 (by decide) ?_
        rw [show (3 : Int32) = cd B1 B2 B3 from by simp [cd, hB_2, hB_4, hB_6]] at hP
        exact W.zret (v := 0) hx hb hr rfl (fun t ht hW => ⟨⟨0, (), rfl, by simp [b2i, hB_2, hB_4, hB_6], P_at ht hP⟩, hS.F ht⟩) hS.2.2 dX13_passes_41
    · have hB_4 : (B2) = false := b2i_0 c_3
      refine lv_iconst (v := 2) hx hb dX13_passes_13 (by decide) ?_
      refine lv_goto (tgt := 26) hx hb dX13_passes_14 (by decide) ?_
      refine va_put (D := (dC, dI)) (ci := 15) (v := .int 2) (ty := .int) (C := RX13) (T := TX13) (N := 14) hx hb hts hiX13 tyX13 tyX13_ok nmX13 hown hK hP hD hS 0 (m_0 b r1 r2 g th) rfl 0 (by decide) hf1 (fun _ h9 => h9) rfl (by decide +kernel) rfl rfl (Nat.le_of_ble_eq_true rfl) dX13_passes_26 (fun H_13 L_14 hP hD hS => ?_)
      have hP : va_P (dC, dI) vwCl (modW b r1 r2 g 2) H_13 := hP
      have hD : va_D A (modW b r1 r2 g 2) := hD
      refine lv_aload_n hx hb dX13_passes_29 rfl (lv_at hl 0 rfl) ?_
      refine va_get (D := (dC, dI)) (ci := 15) (v := .int 2) (C := RX13) (T := TX13) (N := 14) hx hb hts hiX13 hown hK hP 0 (m_0 b r1 r2 g 2) rfl 0 (by decide) hf1 (fun _ h9 => h9) rfl dX13_passes_30 ?_
      refine lv_if_ne (tgt := 40) hx hb dX13_passes_33 (by decide) (fun c_15 => ?_) (fun c_15 => absurd c_15 (by decide))
      refine lv_iconst (v := 0) hx hb dX13_passes_40 (by decide) ?_
      rw [show (2 : Int32) = cd B1 B2 B3 from by simp [cd, hB_2, hB_4]] at hP
      exact W.zret (v := 0) hx hb hr rfl (fun t ht hW => ⟨⟨0, (), rfl, by simp [b2i, hB_2, hB_4], P_at ht hP⟩, hS.F ht⟩) hS.2.2 dX13_passes_41
  · have hB_2 : (B1) = false := b2i_0 c_1
    refine lv_iconst (v := 1) hx hb dX13_passes_5 (by decide) ?_
    refine lv_goto (tgt := 26) hx hb dX13_passes_6 (by decide) ?_
    refine va_put (D := (dC, dI)) (ci := 15) (v := .int 1) (ty := .int) (C := RX13) (T := TX13) (N := 14) hx hb hts hiX13 tyX13 tyX13_ok nmX13 hown hK hP hD hS 0 (m_0 b r1 r2 g th) rfl 0 (by decide) hf1 (fun _ h9 => h9) rfl (by decide +kernel) rfl rfl (Nat.le_of_ble_eq_true rfl) dX13_passes_26 (fun H_16 L_17 hP hD hS => ?_)
    have hP : va_P (dC, dI) vwCl (modW b r1 r2 g 1) H_16 := hP
    have hD : va_D A (modW b r1 r2 g 1) := hD
    refine lv_aload_n hx hb dX13_passes_29 rfl (lv_at hl 0 rfl) ?_
    refine va_get (D := (dC, dI)) (ci := 15) (v := .int 1) (C := RX13) (T := TX13) (N := 14) hx hb hts hiX13 hown hK hP 0 (m_0 b r1 r2 g 1) rfl 0 (by decide) hf1 (fun _ h9 => h9) rfl dX13_passes_30 ?_
    refine lv_if_ne (tgt := 40) hx hb dX13_passes_33 (by decide) (fun c_18 => ?_) (fun c_18 => absurd c_18 (by decide))
    refine lv_iconst (v := 0) hx hb dX13_passes_40 (by decide) ?_
    rw [show (1 : Int32) = cd B1 B2 B3 from by simp [cd, hB_2]] at hP
    exact W.zret (v := 0) hx hb hr rfl (fun t ht hW => ⟨⟨0, (), rfl, by simp [b2i, hB_2], P_at ht hP⟩, hS.F ht⟩) hS.2.2 dX13_passes_41
