theorem dX12_sum_0 : decode cX12_sum 0 = .ok (.iconst 0, 1) := by decide +kernel
theorem dX12_sum_1 : decode cX12_sum 1 = .ok (.istore_n 1, 1) := by decide +kernel
theorem dX12_sum_2 : decode cX12_sum 2 = .ok (.iconst 0, 1) := by decide +kernel
theorem dX12_sum_3 : decode cX12_sum 3 = .ok (.istore_n 2, 1) := by decide +kernel
theorem dX12_sum_4 : decode cX12_sum 4 = .ok (.iload_n 2, 1) := by decide +kernel
theorem dX12_sum_5 : decode cX12_sum 5 = .ok (.aload_n 0, 1) := by decide +kernel
theorem dX12_sum_6 : decode cX12_sum 6 = .ok (.arraylength, 1) := by decide +kernel
theorem dX12_sum_7 : decode cX12_sum 7 = .ok (.if_icmp .ge 15, 3) := by decide +kernel
theorem dX12_sum_10 : decode cX12_sum 10 = .ok (.iload_n 1, 1) := by decide +kernel
theorem dX12_sum_11 : decode cX12_sum 11 = .ok (.aload_n 0, 1) := by decide +kernel
theorem dX12_sum_12 : decode cX12_sum 12 = .ok (.iload_n 2, 1) := by decide +kernel
theorem dX12_sum_13 : decode cX12_sum 13 = .ok (.iaload, 1) := by decide +kernel
theorem dX12_sum_14 : decode cX12_sum 14 = .ok (.iadd, 1) := by decide +kernel
theorem dX12_sum_15 : decode cX12_sum 15 = .ok (.istore_n 1, 1) := by decide +kernel
theorem dX12_sum_16 : decode cX12_sum 16 = .ok (.iinc 2 1, 3) := by decide +kernel
theorem dX12_sum_19 : decode cX12_sum 19 = .ok (.goto (-15), 3) := by decide +kernel
theorem dX12_sum_22 : decode cX12_sum 22 = .ok (.iload_n 1, 1) := by decide +kernel
theorem dX12_sum_23 : decode cX12_sum 23 = .ok (.ireturn, 1) := by decide +kernel
set_option maxHeartbeats 4000000 in
set_option maxRecDepth 100000 in
theorem c_X12_sum (l : Launch) (dC : Nat → ClassId) (dI : Nat → Nat → Nat) (g : Nat → ClassId) (Wd : va_W) (nb : Nat) (f : Nat → Int32) (k0 : Nat) (w0 : Wd[k0]? = some (nb, .inl (g 0, 2, .inl f))) (h0 : f (0 : Int32).toNatClampNeg = 1) (h1 : f (1 : Int32).toNatClampNeg = 0) (sz : Nat) : Met l yX12_sum wsX12_sum ({ frames := 0, cells := 0, slots := 0, locals := 0 }) (va_Pc [.ref nb] (PG (dC, dI) g Wd sz)) (va_Qi (fun (r : Int32) (_ : Unit) => r = 1) (fun (_ : Unit) t => va_P (dC, dI) vwCl Wd t.heap) (va_A Wd sz)) 0 0 (va_A Wd sz) := by
  refine Met.ofW (cc := cX12_sum) (maxL := 3) (ret := (some .int)) (by decide) rfl ?_
  intro p e s m args below meth c s₁ B hml hv
  obtain ⟨rfl, hsz, hP, hK, hD0, hG⟩ := hv
  have hx := B.exec
  have hb := B.bytes
  have hr := B.returns
  have hts := atoms_spec (ws := wsX12_sum) B.pre
  have hown : s.vm.findClass RX12 = some m.cls := findClass_of_methodNamed B.named
  have hlocks := B.notSynchronized
  subst hsz
  have hD := hD0.self (sz := s.heap.size)
  generalize hAe : va_A Wd s.heap.size = A at hD hG ⊢
  have hA : ∀ q : Nat, s.heap.size ≤ q → A q := fun q h => by rw [← hAe]; exact Or.inr h
  have hS : va_S A s.heap s.heap [] := va_S.rf
  have hl := lv_entry ([.ref nb]) (n := 3) (Nat.le_of_ble_eq_true rfl)
  rw [lg_entry_eq]
  generalize (lg_sl ([.ref nb]) ++ List.replicate (3 - (lg_sl ([.ref nb])).length) Slot.unset).toArray = ls at hl ⊢
  have hl : lv_has ls 3 [(0, .ref nb)] := hl
  refine lv_iconst (v := 0) hx hb dX12_sum_0 (by decide) ?_
  refine lv_istore_n (lv' := [(1, .int 0), (0, .ref nb)]) hx hb dX12_sum_1 rfl hl (by decide) rfl (fun ls hl => ?_)
  refine lv_iconst (v := 0) hx hb dX12_sum_2 (by decide) ?_
  refine lv_istore_n (lv' := [(2, .int 0), (1, .int 0), (0, .ref nb)]) hx hb dX12_sum_3 rfl hl (by decide) rfl (fun ls hl => ?_)
  refine lv_iload_n hx hb dX12_sum_4 rfl (lv_at hl 0 rfl) ?_
  refine lv_aload_n hx hb dX12_sum_5 rfl (lv_at hl 2 rfl) ?_
  refine va_alen hx hb hK hP k0 0 w0 rfl (v := 2) rfl dX12_sum_6 ?_
  refine lv_icmp_ge (tgt := 22) hx hb dX12_sum_7 (by decide) (fun c_1 => absurd c_1 (by decide)) (fun c_1 => ?_)
  refine lv_iload_n hx hb dX12_sum_10 rfl (lv_at hl 1 rfl) ?_
  refine lv_aload_n hx hb dX12_sum_11 rfl (lv_at hl 2 rfl) ?_
  refine lv_iload_n hx hb dX12_sum_12 rfl (lv_at hl 0 rfl) ?_
  refine va_iald hx hb hK hP k0 0 w0 rfl (by unfold vp_in; decide) dX12_sum_13 ?_
  refine lv_topi (fun x_2 ex_2 => ?_)
  obtain rfl : x_2 = 1 := ex_2.trans h0
  refine lv_iadd hx hb dX12_sum_14 ?_
  refine lv_topi (fun x_3 ex_3 => ?_)
  obtain rfl : x_3 = 1 := ex_3.trans (by decide)
  refine lv_istore_n (lv' := [(1, .int 1), (2, .int 0), (0, .ref nb)]) hx hb dX12_sum_15 rfl hl (by decide) rfl (fun ls hl => ?_)
  refine lv_iinc (v := 1) (lv' := [(2, .int 1), (1, .int 1), (0, .ref nb)]) hx hb dX12_sum_16 hl (k := 1) rfl (by decide) (by decide) rfl (fun ls hl => ?_)
  refine lv_goto (tgt := 4) hx hb dX12_sum_19 (by decide) ?_
  refine lv_iload_n hx hb dX12_sum_4 rfl (lv_at hl 0 rfl) ?_
  refine lv_aload_n hx hb dX12_sum_5 rfl (lv_at hl 2 rfl) ?_
  refine va_alen hx hb hK hP k0 0 w0 rfl (v := 2) rfl dX12_sum_6 ?_
  refine lv_icmp_ge (tgt := 22) hx hb dX12_sum_7 (by decide) (fun c_4 => absurd c_4 (by decide)) (fun c_4 => ?_)
  refine lv_iload_n hx hb dX12_sum_10 rfl (lv_at hl 1 rfl) ?_
  refine lv_aload_n hx hb dX12_sum_11 rfl (lv_at hl 2 rfl) ?_
  refine lv_iload_n hx hb dX12_sum_12 rfl (lv_at hl 0 rfl) ?_
  refine va_iald hx hb hK hP k0 0 w0 rfl (by unfold vp_in; decide) dX12_sum_13 ?_
  refine lv_topi (fun x_5 ex_5 => ?_)
  obtain rfl : x_5 = 0 := ex_5.trans h1
  refine lv_iadd hx hb dX12_sum_14 ?_
  refine lv_topi (fun x_6 ex_6 => ?_)
  obtain rfl : x_6 = 1 := ex_6.trans (by decide)
  refine lv_istore_n (lv' := [(1, .int 1), (2, .int 1), (0, .ref nb)]) hx hb dX12_sum_15 rfl hl (by decide) rfl (fun ls hl => ?_)
  refine lv_iinc (v := 2) (lv' := [(2, .int 2), (1, .int 1), (0, .ref nb)]) hx hb dX12_sum_16 hl (k := 1) rfl (by decide) (by decide) rfl (fun ls hl => ?_)
  refine lv_goto (tgt := 4) hx hb dX12_sum_19 (by decide) ?_
  refine lv_iload_n hx hb dX12_sum_4 rfl (lv_at hl 0 rfl) ?_
  refine lv_aload_n hx hb dX12_sum_5 rfl (lv_at hl 2 rfl) ?_
  refine va_alen hx hb hK hP k0 0 w0 rfl (v := 2) rfl dX12_sum_6 ?_
  refine lv_icmp_ge (tgt := 22) hx hb dX12_sum_7 (by decide) (fun c_7 => ?_) (fun c_7 => absurd (by decide) c_7)
  refine lv_iload_n hx hb dX12_sum_22 rfl (lv_at hl 1 rfl) ?_
  exact W.iret (v := 1) hx hb hr (fun t ht hW => ⟨⟨1, (), rfl, rfl, P_at ht hP⟩, hS.F ht⟩) hS.2.2 dX12_sum_23
