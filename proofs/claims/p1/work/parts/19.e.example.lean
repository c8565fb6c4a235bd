theorem dX10_add_0 : decode cX10_add 0 = .ok (.aload_n 0, 1) := by decide +kernel
theorem dX10_add_1 : decode cX10_add 1 = .ok (.getfield 15, 3) := by decide +kernel
theorem dX10_add_4 : decode cX10_add 4 = .ok (.ifCond .lt 33, 3) := by decide +kernel
theorem dX10_add_7 : decode cX10_add 7 = .ok (.aload_n 0, 1) := by decide +kernel
theorem dX10_add_8 : decode cX10_add 8 = .ok (.getfield 15, 3) := by decide +kernel
theorem dX10_add_11 : decode cX10_add 11 = .ok (.sipush 160, 3) := by decide +kernel
theorem dX10_add_14 : decode cX10_add 14 = .ok (.if_icmp .ge 23, 3) := by decide +kernel
theorem dX10_add_17 : decode cX10_add 17 = .ok (.aload_n 0, 1) := by decide +kernel
theorem dX10_add_18 : decode cX10_add 18 = .ok (.getfield 9, 3) := by decide +kernel
theorem dX10_add_21 : decode cX10_add 21 = .ok (.aload_n 0, 1) := by decide +kernel
theorem dX10_add_22 : decode cX10_add 22 = .ok (.getfield 15, 3) := by decide +kernel
theorem dX10_add_25 : decode cX10_add 25 = .ok (.iload_n 1, 1) := by decide +kernel
theorem dX10_add_26 : decode cX10_add 26 = .ok (.iastore, 1) := by decide +kernel
theorem dX10_add_27 : decode cX10_add 27 = .ok (.aload_n 0, 1) := by decide +kernel
theorem dX10_add_28 : decode cX10_add 28 = .ok (.dup, 1) := by decide +kernel
theorem dX10_add_29 : decode cX10_add 29 = .ok (.getfield 15, 3) := by decide +kernel
theorem dX10_add_32 : decode cX10_add 32 = .ok (.iconst 1, 1) := by decide +kernel
theorem dX10_add_33 : decode cX10_add 33 = .ok (.iadd, 1) := by decide +kernel
theorem dX10_add_34 : decode cX10_add 34 = .ok (.putfield 15, 3) := by decide +kernel
theorem dX10_add_37 : decode cX10_add 37 = .ok (.return_, 1) := by decide +kernel
theorem dX10_replaceBy_0 : decode cX10_replaceBy 0 = .ok (.aload_n 0, 1) := by decide +kernel
set_option maxRecDepth 20000 in
theorem ggX10_replaceBy_X10_empty : GoodIn wsX10_replaceBy wsX10_empty := goodIn_r _ [5, 6, 61, 62] (by decide +kernel) (by decide +kernel)
set_option maxRecDepth 20000 in
theorem gX10_replaceBy_X10_empty : GoodIn wsX10_replaceBy (wsV RX10 19 RX10 yX10_empty wsX10_empty) := goodIn_app (goodIn_of _ (by decide +kernel)) ggX10_replaceBy_X10_empty
theorem dX10_replaceBy_1 : decode cX10_replaceBy 1 = .ok (.invokevirtual 19, 3) := by decide +kernel
theorem dX10_replaceBy_4 : decode cX10_replaceBy 4 = .ok (.iconst 0, 1) := by decide +kernel
theorem dX10_replaceBy_5 : decode cX10_replaceBy 5 = .ok (.istore_n 2, 1) := by decide +kernel
theorem dX10_replaceBy_6 : decode cX10_replaceBy 6 = .ok (.iload_n 2, 1) := by decide +kernel
theorem dX10_replaceBy_7 : decode cX10_replaceBy 7 = .ok (.aload_n 1, 1) := by decide +kernel
set_option maxRecDepth 20000 in
theorem ggX10_replaceBy_J0_length_8abf5 : GoodIn wsX10_replaceBy wsJ0_length_8abf5 := goodIn_r _ [11, 12, 13, 14, 15, 10, 16, 17, 18] (by decide +kernel) (by decide +kernel)
set_option maxRecDepth 20000 in
theorem gX10_replaceBy_J0_length_8abf5 : GoodIn wsX10_replaceBy (wsV RX10 22 RJ0 yJ0_length_8abf5 wsJ0_length_8abf5) := goodIn_app (goodIn_of _ (by decide +kernel)) ggX10_replaceBy_J0_length_8abf5
theorem dX10_replaceBy_8 : decode cX10_replaceBy 8 = .ok (.invokevirtual 22, 3) := by decide +kernel
theorem dX10_replaceBy_11 : decode cX10_replaceBy 11 = .ok (.if_icmp .ge 18, 3) := by decide +kernel
theorem dX10_replaceBy_29 : decode cX10_replaceBy 29 = .ok (.return_, 1) := by decide +kernel
theorem dX10_replaceBy_14 : decode cX10_replaceBy 14 = .ok (.aload_n 0, 1) := by decide +kernel
theorem dX10_replaceBy_15 : decode cX10_replaceBy 15 = .ok (.aload_n 1, 1) := by decide +kernel
theorem dX10_replaceBy_16 : decode cX10_replaceBy 16 = .ok (.iload_n 2, 1) := by decide +kernel
set_option maxRecDepth 20000 in
theorem ggX10_replaceBy_J0_charAt_5068e : GoodIn wsX10_replaceBy wsJ0_charAt_5068e := goodIn_r _ [22, 12, 23, 24, 25, 10, 26, 17, 18, 27, 28, 29, 30, 31, 32, 33, 34, 35, 36, 37, 38, 39, 40, 41, 42, 43, 44, 45, 46, 47, 48, 49, 50, 51, 52, 53, 54, 55] (by decide +kernel) (by decide +kernel)
set_option maxRecDepth 20000 in
theorem gX10_replaceBy_J0_charAt_5068e : GoodIn wsX10_replaceBy (wsV RX10 28 RJ0 yJ0_charAt_5068e wsJ0_charAt_5068e) := goodIn_app (goodIn_of _ (by decide +kernel)) ggX10_replaceBy_J0_charAt_5068e
theorem dX10_replaceBy_17 : decode cX10_replaceBy 17 = .ok (.invokevirtual 28, 3) := by decide +kernel
set_option maxRecDepth 20000 in
theorem ggX10_replaceBy_X10_add : GoodIn wsX10_replaceBy wsX10_add := goodIn_r _ [59, 6, 60, 61, 62] (by decide +kernel) (by decide +kernel)
set_option maxRecDepth 20000 in
theorem gX10_replaceBy_X10_add : GoodIn wsX10_replaceBy (wsV RX10 32 RX10 yX10_add wsX10_add) := goodIn_app (goodIn_of _ (by decide +kernel)) ggX10_replaceBy_X10_add
theorem dX10_replaceBy_20 : decode cX10_replaceBy 20 = .ok (.invokevirtual 32, 3) := by decide +kernel
theorem dX10_replaceBy_23 : decode cX10_replaceBy 23 = .ok (.iinc 2 1, 3) := by decide +kernel
theorem dX10_replaceBy_26 : decode cX10_replaceBy 26 = .ok (.goto (-20), 3) := by decide +kernel
theorem dX11_example_0 : decode cX11_example 0 = .ok (.aload_n 0, 1) := by decide +kernel
theorem dX11_example_1 : decode cX11_example 1 = .ok (.iload_n 1, 1) := by decide +kernel
theorem dX11_example_2 : decode cX11_example 2 = .ok (.iconst 0, 1) := by decide +kernel
theorem dX11_example_3 : decode cX11_example 3 = .ok (.iconst 2, 1) := by decide +kernel
set_option maxRecDepth 20000 in
theorem ggX11_example_X11_demandRange : GoodIn wsX11_example wsX11_demandRange := goodIn_ca (goodIn_r _ [6, 7, 8] (by decide +kernel) (by decide +kernel)) (goodIn_sub (fun _ h => List.mem_cons_of_mem _ (List.mem_append_right _ h)) (by decide +kernel))
set_option maxRecDepth 20000 in
theorem gX11_example_X11_demandRange : GoodIn wsX11_example (wsV RX11 90 RX11 yX11_demandRange wsX11_demandRange) := goodIn_app (goodIn_of _ (by decide +kernel)) ggX11_example_X11_demandRange
theorem dX11_example_4 : decode cX11_example 4 = .ok (.invokevirtual 90, 3) := by decide +kernel
theorem dX11_example_7 : decode cX11_example 7 = .ok (.aload_n 0, 1) := by decide +kernel
theorem dX11_example_8 : decode cX11_example 8 = .ok (.getfield 71, 3) := by decide +kernel
theorem dX11_example_11 : decode cX11_example 11 = .ok (.getfield 305, 3) := by decide +kernel
theorem dX11_example_14 : decode cX11_example 14 = .ok (.iload_n 1, 1) := by decide +kernel
theorem dX11_example_15 : decode cX11_example 15 = .ok (.ifCond .ne 9, 3) := by decide +kernel
theorem dX11_example_24 : decode cX11_example 24 = .ok (.iload_n 1, 1) := by decide +kernel
theorem dX11_example_25 : decode cX11_example 25 = .ok (.iconst 1, 1) := by decide +kernel
theorem dX11_example_26 : decode cX11_example 26 = .ok (.if_icmp .ne 9, 3) := by decide +kernel
theorem dX11_example_35 : decode cX11_example 35 = .ok (.ldc_w 320, 3) := by decide +kernel
set_option maxRecDepth 20000 in
theorem ggX11_example_X10_replaceBy : GoodIn wsX11_example wsX10_replaceBy := goodIn_r _ [13, 14, 15, 16, 12, 17, 18, 19, 20, 21, 22, 23, 24, 25, 26, 27, 28, 29, 30, 31, 32, 33, 34, 35, 36, 37, 38, 39, 40, 41, 42, 43, 44, 45, 46, 47, 48, 49, 50, 51, 52, 53, 54, 55, 56, 57, 58, 59, 60, 61, 62, 63, 64, 65, 66, 67, 68, 69, 70, 71, 72, 99, 100] (by decide +kernel) (by decide +kernel)
set_option maxRecDepth 20000 in
theorem gX11_example_X10_replaceBy : GoodIn wsX11_example (wsV RX11 322 RX10 yX10_replaceBy wsX10_replaceBy) := goodIn_app (goodIn_of _ (by decide +kernel)) ggX11_example_X10_replaceBy
theorem dX11_example_38 : decode cX11_example 38 = .ok (.invokevirtual 322, 3) := by decide +kernel
theorem dX11_example_41 : decode cX11_example 41 = .ok (.aload_n 0, 1) := by decide +kernel
theorem dX11_example_42 : decode cX11_example 42 = .ok (.getfield 71, 3) := by decide +kernel
theorem dX11_example_45 : decode cX11_example 45 = .ok (.getfield 305, 3) := by decide +kernel
theorem dX11_example_48 : decode cX11_example 48 = .ok (.getfield 309, 3) := by decide +kernel
theorem dX11_example_51 : decode cX11_example 51 = .ok (.ireturn, 1) := by decide +kernel
theorem dX11_example_29 : decode cX11_example 29 = .ok (.ldc_w 318, 3) := by decide +kernel
theorem dX11_example_32 : decode cX11_example 32 = .ok (.goto 6, 3) := by decide +kernel
theorem dX11_example_18 : decode cX11_example 18 = .ok (.ldc_w 316, 3) := by decide +kernel
theorem dX11_example_21 : decode cX11_example 21 = .ok (.goto 17, 3) := by decide +kernel
section
variable {p : Program} {l : Launch} {e : Env} {R : Room} {s : State} {m : MethodId} {args : Array Value} {below : List Frame} {meth : Method} {c : Code} {H : Heap} {locs : List Loc} {cells slots : Nat} {Q : State → Prop} {cc : ByteArray} {pc : Nat} {ls : Array Slot} {rest : List Value}
theorem va_ldcSw (hexec : p.tables.exec = Jvm.exec) (hb : c.code = cc) {own tx : String} {index q : Nat} (hown : s.vm.findClass own = some m.cls) (hZ : vk_R own index tx q s) (hdg : decode cc pc = .ok (.ldc_w index, 3))
    (k : W p l e R s m args below meth c H locs cells slots Q (F0 m (pc + 3) ls (.ref q :: rest))) : W p l e R s m args below meth c H locs cells slots Q (F0 m pc ls rest) := by
  intro T hT X
  obtain ⟨t, a1, b1⟩ := k T hT X
  refine ⟨t, ?_, b1⟩
  obtain ⟨kc, cf, i, a', hk, hcf, hcp, -, hr, hev'⟩ := Cond.stringRef_spec (args := args) hown (show (Cond.stringRef own index tx).before args s = true from hZ.1)
  have hev : (Term.string own index).eval args s none [] s = some (.ref q) := hZ.2
  cases hev.symm.trans hev'
  obtain ⟨k', hk', he⟩ := X.warmed.alike.2.2 _ _ hk
  have hr' : k'.resolved[index]? = some (some (.string q)) := by
    rcases X.warmed.entry hk hk' index with h | ⟨h, -⟩
    · rw [h]; exact hr
    · rw [hr] at h; cases h
  have hdg' : decode c.code pc = .ok (.ldc_w index, 3) := by rw [hb]; exact hdg
  jvm_step X.here [hexec, hdg', ldc_w.wp_string (e := e) (s := T) (f := F0 m pc ls rest) X.here.top hk' (by rw [he]; exact hcf) hcp hr']
  exact a1
end
theorem lnS_0 : lnS 0 = 84 := by decide
theorem lnS_1 : lnS 1 = 107 := by decide
theorem lnS_2 : lnS 2 = 66 := by decide
theorem lnS_le (i : Nat) (h : i < 3) : lnS i < 2 ^ 31 ∧ lnS i ≤ 160 := by
  match i, h with
  | 0, _ => exact ⟨by decide, by decide⟩
  | 1, _ => exact ⟨by decide, by decide⟩
  | 2, _ => exact ⟨by decide, by decide⟩
/-- what example answers -/
def exl (x : Int32) : Int32 := if x = 0 then nI (lnS 0) else if x = 1 then nI (lnS 1) else nI (lnS 2)
set_option maxHeartbeats 4000000 in
set_option maxRecDepth 100000 in
theorem c_X10_add (l : Launch) (dC : Nat → ClassId) (dI : Nat → Nat → Nat) (g : Nat → ClassId) (t : Nat) (h : Nat) (i : Nat) (f1 : Nat → Int32) (rc : Int32) (hi : i < 160) (sz : Nat) : Met l yX10_add wsX10_add ({ frames := 0, cells := 0, slots := 0, locals := 0 }) (va_Pc [.ref t, .int rc] (PG (dC, dI) g [(t, .inr (12, [.ref h, .int (nI i)])), (h, .inl (g 0, 160, .inl f1))] sz)) (va_Qv (fun (_ : Unit) => True) (fun (_ : Unit) t9 => va_P (dC, dI) vwCl [(t, .inr (12, [.ref h, .int (nI (i + 1))])), (h, .inl (g 0, 160, .inl (upd f1 (nI i).toNatClampNeg rc)))] t9.heap ∧ va_D (va_A [(t, .inr (12, [.ref h, .int (nI i)])), (h, .inl (g 0, 160, .inl f1))] sz) [(t, .inr (12, [.ref h, .int (nI (i + 1))])), (h, .inl (g 0, 160, .inl (upd f1 (nI i).toNatClampNeg rc)))]) (va_A [(t, .inr (12, [.ref h, .int (nI i)])), (h, .inl (g 0, 160, .inl f1))] sz)) 0 0 (va_A [(t, .inr (12, [.ref h, .int (nI i)])), (h, .inl (g 0, 160, .inl f1))] sz) := by
  refine Met.ofW (cc := cX10_add) (maxL := 2) (ret := none) (by decide) rfl ?_
  intro p e s m args below meth c s₁ B hml hv
  obtain ⟨rfl, hsz, hP, hK, hD0, hG⟩ := hv
  have hx := B.exec
  have hb := B.bytes
  have hr := B.returns
  have hts := atoms_spec (ws := wsX10_add) B.pre
  have hown : s.vm.findClass RX10 = some m.cls := findClass_of_methodNamed B.named
  have hlocks := B.notSynchronized
  subst hsz
  have hD := hD0.self (sz := s.heap.size)
  generalize hAe : va_A [(t, .inr (12, [.ref h, .int (nI i)])), (h, .inl (g 0, 160, .inl f1))] s.heap.size = A at hD hG ⊢
  have hA : ∀ q : Nat, s.heap.size ≤ q → A q := fun q h => by rw [← hAe]; exact Or.inr h
  have hS : va_S A s.heap s.heap [] := va_S.rf
  have hl := lv_entry ([.ref t, .int rc]) (n := 2) (Nat.le_of_ble_eq_true rfl)
  rw [lg_entry_eq]
  generalize (lg_sl ([.ref t, .int rc]) ++ List.replicate (2 - (lg_sl ([.ref t, .int rc])).length) Slot.unset).toArray = ls at hl ⊢
  have hl : lv_has ls 2 [(0, .ref t), (1, .int rc)] := hl
  have hf15 := hts (Cond.fieldLink RX10 15 "RunmergeOffice$Text" "size" "I") (by decide +kernel)
  have hiX10 : ∀ w ∈ u_ws RX10 TX10 2, w ∈ wsX10_add := by decide +kernel
  have hf9 := hts (Cond.fieldLink RX10 9 "RunmergeOffice$Text" "bytes" "[I") (by decide +kernel)
  refine lv_aload_n hx hb dX10_add_0 rfl (lv_at hl 0 rfl) ?_
  refine va_get (D := (dC, dI)) (ci := 12) (v := .int (nI i)) (C := RX10) (T := TX10) (N := 2) hx hb hts hiX10 hown hK hP 0 rfl rfl 1 (by decide) hf15 (fun _ h9 => h9) rfl dX10_add_1 ?_
  refine lv_if_lt (tgt := 37) hx hb dX10_add_4 (by decide) (fun c_1 => absurd c_1 (nI_pos (by omega))) (fun c_1 => ?_)
  refine lv_aload_n hx hb dX10_add_7 rfl (lv_at hl 0 rfl) ?_
  refine va_get (D := (dC, dI)) (ci := 12) (v := .int (nI i)) (C := RX10) (T := TX10) (N := 2) hx hb hts hiX10 hown hK hP 0 rfl rfl 1 (by decide) hf15 (fun _ h9 => h9) rfl dX10_add_8 ?_
  refine lv_sipush (v := 160) hx hb dX10_add_11 (by decide) ?_
  refine lv_icmp_ge (tgt := 37) hx hb dX10_add_14 (by decide) (fun c_2 => absurd c_2 (nI_ge (b := 160) hi (by decide))) (fun c_2 => ?_)
  refine lv_aload_n hx hb dX10_add_17 rfl (lv_at hl 0 rfl) ?_
  refine va_get (D := (dC, dI)) (ci := 12) (v := .ref h) (C := RX10) (T := TX10) (N := 2) hx hb hts hiX10 hown hK hP 0 rfl rfl 0 (by decide) hf9 (fun _ h9 => h9) rfl dX10_add_18 ?_
  refine lv_aload_n hx hb dX10_add_21 rfl (lv_at hl 0 rfl) ?_
  refine va_get (D := (dC, dI)) (ci := 12) (v := .int (nI i)) (C := RX10) (T := TX10) (N := 2) hx hb hts hiX10 hown hK hP 0 rfl rfl 1 (by decide) hf15 (fun _ h9 => h9) rfl dX10_add_22 ?_
  refine lv_iload_n hx hb dX10_add_25 rfl (lv_at hl 1 rfl) ?_
  refine va_iast hx hb hK hP hD hS 1 0 rfl rfl (vp_in_nI hi (by decide)) dX10_add_26 (fun H_3 L_4 hP hD hS => ?_)
  have hP : va_P (dC, dI) vwCl [(t, .inr (12, [.ref h, .int (nI i)])), (h, .inl (g 0, 160, .inl (upd f1 (nI i).toNatClampNeg rc)))] H_3 := hP
  have hD : va_D A [(t, .inr (12, [.ref h, .int (nI i)])), (h, .inl (g 0, 160, .inl (upd f1 (nI i).toNatClampNeg rc)))] := hD
  refine lv_aload_n hx hb dX10_add_27 rfl (lv_at hl 0 rfl) ?_
  refine lv_dup hx hb dX10_add_28 rfl ?_
  refine va_get (D := (dC, dI)) (ci := 12) (v := .int (nI i)) (C := RX10) (T := TX10) (N := 2) hx hb hts hiX10 hown hK hP 0 rfl rfl 1 (by decide) hf15 (fun _ h9 => h9) rfl dX10_add_29 ?_
  refine lv_iconst (v := 1) hx hb dX10_add_32 (by decide) ?_
  refine lv_iadd hx hb dX10_add_33 ?_
  refine lv_topi (fun x_5 ex_5 => ?_)
  obtain rfl : x_5 = nI (i + 1) := ex_5.trans (nI_1 _)
  refine va_put (D := (dC, dI)) (ci := 12) (v := .int (nI (i + 1))) (ty := .int) (C := RX10) (T := TX10) (N := 2) hx hb hts hiX10 tyX10 tyX10_ok nmX10 hown hK hP hD hS 0 rfl rfl 1 (by decide) hf15 (fun _ h9 => h9) rfl (by decide +kernel) rfl rfl (Nat.le_of_ble_eq_true rfl) dX10_add_34 (fun H_6 L_7 hP hD hS => ?_)
  have hP : va_P (dC, dI) vwCl [(t, .inr (12, [.ref h, .int (nI (i + 1))])), (h, .inl (g 0, 160, .inl (upd f1 (nI i).toNatClampNeg rc)))] H_6 := hP
  have hD : va_D A [(t, .inr (12, [.ref h, .int (nI (i + 1))])), (h, .inl (g 0, 160, .inl (upd f1 (nI i).toNatClampNeg rc)))] := hD
  have hP9 := hP.sub (ws' := [(t, .inr (12, [.ref h, .int (nI (i + 1))])), (h, .inl (g 0, 160, .inl (upd f1 (nI i).toNatClampNeg rc)))]) [0, 1] rfl
  have hD9 := hD.sub (ws' := [(t, .inr (12, [.ref h, .int (nI (i + 1))])), (h, .inl (g 0, 160, .inl (upd f1 (nI i).toNatClampNeg rc)))]) [0, 1] (by decide) rfl
  exact W.vret hx hb hr (fun t ht hW => ⟨⟨(), rfl, trivial, ⟨P_at ht hP9, hD9⟩⟩, hS.F ht⟩) hS.2.2 dX10_add_37
set_option maxHeartbeats 4000000 in
set_option maxRecDepth 100000 in
theorem c_X10_replaceBy (l : Launch) (dC : Nat → ClassId) (dI : Nat → Nat → Nat) (g : Nat → ClassId) (t : Nat) (h : Nat) (n9 : Nat) (a9 : Nat) (f1 : Nat → Int32) (hn : n9 < 2 ^ 31) (hm : n9 ≤ 160) (sz : Nat) : Met l yX10_replaceBy wsX10_replaceBy ({ frames := 4, cells := 0, slots := 0, locals := 85 }) (va_Pc [.ref t, .ref a9] (PX (GS n9 a9) (dC, dI) g [(t, .inr (12, [.ref h, .int 0])), (h, .inl (g 0, 160, .inl f1))] sz)) (va_Qv (fun (_ : Nat → Int32) => True) (fun (u : Nat → Int32) t9 => va_P (dC, dI) vwCl [(t, .inr (12, [.ref h, .int (nI n9)])), (h, .inl (g 0, 160, .inl u))] t9.heap ∧ va_D (va_A [(t, .inr (12, [.ref h, .int 0])), (h, .inl (g 0, 160, .inl f1))] sz) [(t, .inr (12, [.ref h, .int (nI n9)])), (h, .inl (g 0, 160, .inl u))]) (va_A [(t, .inr (12, [.ref h, .int 0])), (h, .inl (g 0, 160, .inl f1))] sz)) 0 0 (va_A [(t, .inr (12, [.ref h, .int 0])), (h, .inl (g 0, 160, .inl f1))] sz) := by
  refine Met.ofW (cc := cX10_replaceBy) (maxL := 3) (ret := none) (by decide) rfl ?_
  intro p e s m args below meth c s₁ B hml hv
  obtain ⟨rfl, ⟨hsz, hP, hK, hD0, hG⟩, hT⟩ := hv
  have hx := B.exec
  have hb := B.bytes
  have hr := B.returns
  have hts := atoms_spec (ws := wsX10_replaceBy) B.pre
  have hown : s.vm.findClass RX10 = some m.cls := findClass_of_methodNamed B.named
  have hlocks := B.notSynchronized
  subst hsz
  have hD := hD0.self (sz := s.heap.size)
  generalize hAe : va_A [(t, .inr (12, [.ref h, .int 0])), (h, .inl (g 0, 160, .inl f1))] s.heap.size = A at hD hG hT ⊢
  have hA : ∀ q : Nat, s.heap.size ≤ q → A q := fun q h => by rw [← hAe]; exact Or.inr h
  have hS : va_S A s.heap s.heap [] := va_S.rf
  have hl := lv_entry ([.ref t, .ref a9]) (n := 3) (Nat.le_of_ble_eq_true rfl)
  rw [lg_entry_eq]
  generalize (lg_sl ([.ref t, .ref a9]) ++ List.replicate (3 - (lg_sl ([.ref t, .ref a9])).length) Slot.unset).toArray = ls at hl ⊢
  have hl : lv_has ls 3 [(0, .ref t), (1, .ref a9)] := hl
  refine lv_aload_n hx hb dX10_replaceBy_0 rfl (lv_at hl 0 rfl) ?_
  refine va_callv (va_runV (As := []) (rest := []) ⟨hx, hb, hml, hown, hts⟩ (c_X10_empty l dC dI g [(t, .inr (12, [.ref h, .int 0])), (h, .inl (g 0, 160, .inl f1))] t h 0 rfl  s.heap.size) (cwV 0 hts gX10_replaceBy_X10_empty rfl rfl rfl (by decide +kernel) ⟨Nat.le_of_ble_eq_true rfl, Nat.le_of_ble_eq_true rfl⟩) ⟨PG_blind, va_recv hK hP (ci := 12) (q0 := 0) rfl rfl, PG_call hK hG hS hP hD (A_all hD hA hS.1)⟩ rfl rfl hl.1 rfl (lv_room (Nat.le_of_ble_eq_true rfl)) dX10_replaceBy_1 ⟨Nat.le_of_ble_eq_true rfl, Nat.le_of_ble_eq_true rfl⟩) hS (fun q _ h => (A_all hD hA hS.1) q h) (A_all hD hA hS.1) (fun u_1 t_1 H_1 L_1 ht_1 hvm_1 hw_1 hB_1 hz_1 hk_1 hS => ?_)
  replace hB_1 := (show va_P (dC, dI) vwCl [(t, .inr (12, [.ref h, .int 0])), (h, .inl (g 0, 160, .inl f1))] t_1.heap from hB_1)
  rw [ht_1] at hB_1
  have hP := hB_1
  refine lv_iconst (v := 0) hx hb dX10_replaceBy_4 (by decide) ?_
  refine lv_istore_n (lv' := [(2, .int 0), (0, .ref t), (1, .ref a9)]) hx hb dX10_replaceBy_5 rfl hl (by decide) rfl (fun ls hl => ?_)
  refine W_abs (fun Q hQ => ?_)
  have LOOP6 : ∀ (n i : Nat), i ≤ n9 → n9 < i + n → ∀ (fx : Nat → Int32) (H : Heap) (locs : List Loc), va_P (dC, dI) vwCl [(t, .inr (12, [.ref h, .int (nI i)])), (h, .inl (g 0, 160, .inl fx))] H → va_D A [(t, .inr (12, [.ref h, .int (nI i)])), (h, .inl (g 0, 160, .inl fx))] → va_S A s.heap H locs → ∀ (ls : Array Slot), lv_has ls 3 [(2, .int (nI i)), (0, .ref t), (1, .ref a9)] → W p l e (headSpec wsX10_replaceBy ({ frames := 4, cells := 0, slots := 0, locals := 85 })).room s m ([.ref t, .ref a9] : List Value).toArray below meth c H locs 0 0 Q (F0 m 6 ls []) := by
    intro n
    induction n with
    | zero =>
      intro i h1 h2
      exact absurd h2 (by omega)
    | succ n ih =>
      intro i hi hin fx H locs hP hD hS ls hl
      refine lv_iload_n hx hb dX10_replaceBy_6 rfl (lv_at hl 0 rfl) ?_
      refine lv_aload_n hx hb dX10_replaceBy_7 rfl (lv_at hl 2 rfl) ?_
      refine va_calli (va_runV (As := []) (rest := [.int (nI i)]) ⟨hx, hb, hml, hown, hts⟩ (c_J0_length_8abf5 l dC dI g [(t, .inr (12, [.ref h, .int (nI i)])), (h, .inl (g 0, 160, .inl fx))] n9 a9  hn H.size) (cwV 0 hts gX10_replaceBy_J0_length_8abf5 rfl rfl rfl (by decide +kernel) ⟨Nat.le_of_ble_eq_true rfl, Nat.le_of_ble_eq_true rfl⟩) ⟨PX_blind (GS_go n9 a9), GS_recv hT hS, PX_call (GS_go n9 a9) hK hG hS hP hD (A_all hD hA hS.1) hT⟩ rfl rfl hl.1 rfl (lv_room (Nat.le_of_ble_eq_true rfl)) dX10_replaceBy_8 ⟨Nat.le_of_ble_eq_true rfl, Nat.le_of_ble_eq_true rfl⟩) hS (fun q _ h => (A_all hD hA hS.1) q h) (A_all hD hA hS.1) (fun r_2 u_2 t_2 H_2 L_2 ht_2 hvm_2 hw_2 hB_2 hz_2 hk_2 hS => ?_)
      replace hB_2 := (show va_P (dC, dI) vwCl [(t, .inr (12, [.ref h, .int (nI i)])), (h, .inl (g 0, 160, .inl fx))] t_2.heap from hB_2)
      rw [ht_2] at hB_2
      have hP := hB_2
      obtain rfl : r_2 = nI n9 := hw_2
      refine lv_icmp_ge (tgt := 29) hx hb dX10_replaceBy_11 (by decide) (fun c_3 => ?_) (fun c_3 => ?_)
      · have h9 := (nI_leI (by omega) (by omega)).mp c_3
        obtain rfl : n9 = i := by omega
        subst hQ
        have hP9 := hP.sub (ws' := [(t, .inr (12, [.ref h, .int (nI n9)])), (h, .inl (g 0, 160, .inl fx))]) [0, 1] rfl
        have hD9 := hD.sub (ws' := [(t, .inr (12, [.ref h, .int (nI n9)])), (h, .inl (g 0, 160, .inl fx))]) [0, 1] (by decide) rfl
        exact W.vret hx hb hr (fun t ht hW => ⟨⟨fx, rfl, trivial, ⟨P_at ht hP9, hD9⟩⟩, hS.F ht⟩) hS.2.2 dX10_replaceBy_29
      · have hlt : i < n9 := by
          rcases Nat.lt_or_ge i n9 with q | q
          · exact q
          · exact absurd (nI_le q (by omega)) c_3
        refine lv_aload_n hx hb dX10_replaceBy_14 rfl (lv_at hl 1 rfl) ?_
        refine lv_aload_n hx hb dX10_replaceBy_15 rfl (lv_at hl 2 rfl) ?_
        refine lv_iload_n hx hb dX10_replaceBy_16 rfl (lv_at hl 0 rfl) ?_
        refine va_calli (va_runV (As := [.int (nI i)]) (rest := [.ref t]) ⟨hx, hb, hml, hown, hts⟩ (c_J0_charAt_5068e l dC dI g [(t, .inr (12, [.ref h, .int (nI i)])), (h, .inl (g 0, 160, .inl fx))] n9 a9 i  hlt hn H_2.size) (cwV 1 hts gX10_replaceBy_J0_charAt_5068e rfl rfl rfl (by decide +kernel) ⟨Nat.le_of_ble_eq_true rfl, Nat.le_of_ble_eq_true rfl⟩) ⟨PX_blind (GS_go n9 a9), GS_recv hT hS, PX_call (GS_go n9 a9) hK hG hS hP hD (A_all hD hA hS.1) hT⟩ rfl rfl hl.1 rfl (lv_room (Nat.le_of_ble_eq_true rfl)) dX10_replaceBy_17 ⟨Nat.le_of_ble_eq_true rfl, Nat.le_of_ble_eq_true rfl⟩) hS (fun q _ h => (A_all hD hA hS.1) q h) (A_all hD hA hS.1) (fun r_4 u_4 t_4 H_4 L_4 ht_4 hvm_4 hw_4 hB_4 hz_4 hk_4 hS => ?_)
        replace hB_4 := (show va_P (dC, dI) vwCl [(t, .inr (12, [.ref h, .int (nI i)])), (h, .inl (g 0, 160, .inl fx))] t_4.heap from hB_4)
        rw [ht_4] at hB_4
        have hP := hB_4
        have hPc := hP.sub (ws' := [(t, .inr (12, [.ref h, .int (nI i)])), (h, .inl (g 0, 160, .inl fx))]) [0, 1] rfl
        have hDc := hD.sub (ws' := [(t, .inr (12, [.ref h, .int (nI i)])), (h, .inl (g 0, 160, .inl fx))]) [0, 1] (by decide) rfl
        have hFc := va_free (wc := [(t, .inr (12, [.ref h, .int (nI i)])), (h, .inl (g 0, 160, .inl fx))]) hD hS hA [0, 1] rfl
        refine va_callv (va_runV (As := [.int r_4]) (rest := []) ⟨hx, hb, hml, hown, hts⟩ (c_X10_add l dC dI g t h i fx r_4 (by omega) H_4.size) (cwV 1 hts gX10_replaceBy_X10_add rfl rfl rfl (by decide +kernel) ⟨Nat.le_of_ble_eq_true rfl, Nat.le_of_ble_eq_true rfl⟩) ⟨PG_blind, va_recv hK hP (ci := 12) (q0 := 0) rfl rfl, PG_call hK hG hS hPc hDc hFc⟩ rfl rfl hl.1 rfl (lv_room (Nat.le_of_ble_eq_true rfl)) dX10_replaceBy_20 ⟨Nat.le_of_ble_eq_true rfl, Nat.le_of_ble_eq_true rfl⟩) hS (fun q _ h => hFc q h) hFc (fun u_5 t_5 H_5 L_5 ht_5 hvm_5 hw_5 hB_5 hz_5 hk_5 hS => ?_)
        obtain ⟨hP1, hD1⟩ := hB_5
        rw [ht_5] at hP1
        obtain ⟨hP, hD⟩ := va_join (wr := []) (w1 := [(t, .inr (12, [.ref h, .int (nI (i + 1))])), (h, .inl (g 0, 160, .inl (upd fx (nI i).toNatClampNeg r_4)))]) hP hD [0, 1] [] rfl rfl (by decide) (by decide) hk_5 hFc hP1 hD1
        have hP : va_P (dC, dI) vwCl [(t, .inr (12, [.ref h, .int (nI (i + 1))])), (h, .inl (g 0, 160, .inl (upd fx (nI i).toNatClampNeg r_4)))] H_5 := hP
        have hD : va_D A [(t, .inr (12, [.ref h, .int (nI (i + 1))])), (h, .inl (g 0, 160, .inl (upd fx (nI i).toNatClampNeg r_4)))] := hD
        refine lv_iinc (v := (nI (i + 1))) (lv' := [(2, .int (nI (i + 1))), (0, .ref t), (1, .ref a9)]) hx hb dX10_replaceBy_23 hl (k := 0) rfl (nI_1 _) (by decide) rfl (fun ls hl => ?_)
        refine lv_goto (tgt := 6) hx hb dX10_replaceBy_26 (by decide) ?_
        exact ih (i + 1) (by omega) (by omega) (upd fx (nI i).toNatClampNeg r_4) _ _ (hP.sub [0, 1] rfl) (hD.sub [0, 1] (by decide) rfl) hS _ (lv_sub hl [0, 1, 2] rfl)
  exact LOOP6 (n9 + 1) 0 (Nat.zero_le _) (by omega) f1 _ _ (hP.sub [0, 1] rfl) (hD.sub [0, 1] (by decide) rfl) hS _ (lv_sub hl [0, 1, 2] rfl)
set_option maxHeartbeats 4000000 in
set_option maxRecDepth 100000 in
theorem c_X11_example (l : Launch) (hlf : l.stackTraces = false) (dC : Nat → ClassId) (dI : Nat → Nat → Nat) (g : Nat → ClassId) (a : Nat → Nat) (x : Int32) (sz : Nat) : vx_Met l yX11_example wsX11_example ({ frames := 7, cells := 8, slots := 48, locals := 107 }) (va_Pc [.ref (a 0), .int x] (PG (dC, dI) g (offW a g) sz)) (va_Qi (fun (r : Int32) (_ : Unit) => (rngb x 0 2) = true ∧ r = exl x) (fun (_ : Unit) (_ : State) => True) (va_A (offW a g) sz)) (vx_X (fun _ : Unit => True) (fun E _ _ => E = "java/lang/IllegalArgumentException" ∧ (rngb x 0 2) = false) (va_A (offW a g) sz)) 8 48 (va_A (offW a g) sz) := by
  refine vx_ofW (cc := cX11_example) (maxL := 2) (ret := (some .int)) (by decide) rfl ?_
  intro p e s m args below meth c s₁ B hml hno hv
  obtain ⟨rfl, hsz, hP, hK, hD0, hG⟩ := hv
  have hx := B.exec
  have hb := B.bytes
  have hr := B.returns
  have hts := atoms_spec (ws := wsX11_example) B.pre
  have hown : s.vm.findClass RX11 = some m.cls := findClass_of_methodNamed B.named
  have hlocks := B.notSynchronized
  subst hsz
  have hD := hD0.self (sz := s.heap.size)
  generalize hAe : va_A (offW a g) s.heap.size = A at hD hG ⊢
  have hA : ∀ q : Nat, s.heap.size ≤ q → A q := fun q h => by rw [← hAe]; exact Or.inr h
  have hS : va_S A s.heap s.heap [] := va_S.rf
  have hl := lv_entry ([.ref (a 0), .int x]) (n := 2) (Nat.le_of_ble_eq_true rfl)
  rw [lg_entry_eq]
  generalize (lg_sl ([.ref (a 0), .int x]) ++ List.replicate (2 - (lg_sl ([.ref (a 0), .int x])).length) Slot.unset).toArray = ls at hl ⊢
  have hl : lv_has ls 2 [(0, .ref (a 0)), (1, .int x)] := hl
  have hf71 := hts (Cond.fieldLink RX11 71 "RunmergeOffice" "reader" "LRunmergeOffice$Reader;") (by decide +kernel)
  have hiX11 : ∀ w ∈ u_ws RX11 TX11 13, w ∈ wsX11_example := by decide +kernel
  have hiX5 : ∀ w ∈ u_ws RX5 TX5 13, w ∈ wsX11_example := by decide +kernel
  have hiX10 : ∀ w ∈ u_ws RX10 TX10 2, w ∈ wsX11_example := by decide +kernel
  refine lv_aload_n hx hb dX11_example_0 rfl (lv_at hl 0 rfl) ?_
  refine lv_iload_n hx hb dX11_example_1 rfl (lv_at hl 1 rfl) ?_
  refine lv_iconst (v := 0) hx hb dX11_example_2 (by decide) ?_
  refine lv_iconst (v := 2) hx hb dX11_example_3 (by decide) ?_
  refine vx_callv (vx_runV (As := [.int x, .int 0, .int 2]) (rest := []) ⟨hx, hb, hml, hown, hts⟩ (c_X11_demandRange l hlf dC dI g (offW a g) (a 0) x 0 2   s.heap.size) (cwV 3 hts gX11_example_X11_demandRange rfl rfl rfl (by decide +kernel) ⟨Nat.le_of_ble_eq_true rfl, Nat.le_of_ble_eq_true rfl⟩) ⟨PG_blind, va_recv hK hP (ci := 13) (q0 := 0) rfl (o_0 a g), PG_call hK hG hS hP hD (A_all hD hA hS.1)⟩ rfl rfl hl.1 rfl (lv_room (Nat.le_of_ble_eq_true rfl)) dX11_example_4 ⟨Nat.le_of_ble_eq_true rfl, Nat.le_of_ble_eq_true rfl⟩) hS (fun q _ h => (A_all hD hA hS.1) q h) (A_all hD hA hS.1) (fun q _ h => (A_all hD hA hS.1) q h) (fun E ce q9 u t H1 locs1 ht hvm hp9 hB9 hz hk hS9 hce hcv hcl => ?_) (fun u_1 t_1 H_1 L_1 ht_1 hvm_1 hw_1 hB_1 hz_1 hk_1 hS => ?_)
  · exact vx_out (fun x hx => (hno x hx).elim) hlocks hce hcv hcl (fun t ht hW => ⟨(), trivial, (by have h9 : E = "java/lang/IllegalArgumentException" ∧ rngb x 0 2 = false := hB9; exact ⟨h9.1, by simp [h9.2]⟩), hS9.F ht⟩) hS9.2.2 (Nat.le_of_ble_eq_true rfl) (Nat.le_of_ble_eq_true rfl)
  replace hB_1 := (show va_P (dC, dI) vwCl (offW a g) t_1.heap from hB_1)
  rw [ht_1] at hB_1
  have hP := hB_1
  replace hP := hP.sub (ws' := [((a 0), .inr (13, [.ref (a 1), .ref (a 4), .ref (a 5), .ref (a 6), .ref (a 8), .ref (a 9), .ref (a 12), .ref (a 16), .ref (a 22), .ref (a 43), .ref (a 64), .ref (a 69), .int 0])), ((a 64), .inr (7, [.ref (a 65), .ref (a 67), .ref (a 68), .int 0, .int 0, .int 0, .int 0, .int 0, .int 0, .int 0, .int 0, .int 0, .int (-1)])), ((a 65), .inr (12, [.ref (a 66), .int 0])), ((a 66), .inl (g 0, 160, .inl (fun _ => 0)))]) [0, 64, 65, 66] rfl
  replace hD := hD.sub (ws' := [((a 0), .inr (13, [.ref (a 1), .ref (a 4), .ref (a 5), .ref (a 6), .ref (a 8), .ref (a 9), .ref (a 12), .ref (a 16), .ref (a 22), .ref (a 43), .ref (a 64), .ref (a 69), .int 0])), ((a 64), .inr (7, [.ref (a 65), .ref (a 67), .ref (a 68), .int 0, .int 0, .int 0, .int 0, .int 0, .int 0, .int 0, .int 0, .int 0, .int (-1)])), ((a 65), .inr (12, [.ref (a 66), .int 0])), ((a 66), .inl (g 0, 160, .inl (fun _ => 0)))]) [0, 64, 65, 66] (by decide) rfl
  have hP : va_P (dC, dI) vwCl [((a 0), .inr (13, [.ref (a 1), .ref (a 4), .ref (a 5), .ref (a 6), .ref (a 8), .ref (a 9), .ref (a 12), .ref (a 16), .ref (a 22), .ref (a 43), .ref (a 64), .ref (a 69), .int 0])), ((a 64), .inr (7, [.ref (a 65), .ref (a 67), .ref (a 68), .int 0, .int 0, .int 0, .int 0, .int 0, .int 0, .int 0, .int 0, .int 0, .int (-1)])), ((a 65), .inr (12, [.ref (a 66), .int 0])), ((a 66), .inl (g 0, 160, .inl (fun _ => 0)))] H_1 := hP
  have hD : va_D A [((a 0), .inr (13, [.ref (a 1), .ref (a 4), .ref (a 5), .ref (a 6), .ref (a 8), .ref (a 9), .ref (a 12), .ref (a 16), .ref (a 22), .ref (a 43), .ref (a 64), .ref (a 69), .int 0])), ((a 64), .inr (7, [.ref (a 65), .ref (a 67), .ref (a 68), .int 0, .int 0, .int 0, .int 0, .int 0, .int 0, .int 0, .int 0, .int 0, .int (-1)])), ((a 65), .inr (12, [.ref (a 66), .int 0])), ((a 66), .inl (g 0, 160, .inl (fun _ => 0)))] := hD
  refine lv_aload_n hx hb dX11_example_7 rfl (lv_at hl 0 rfl) ?_
  refine va_get (D := (dC, dI)) (ci := 13) (v := .ref (a 64)) (C := RX11) (T := TX11) (N := 13) hx hb hts hiX11 hown hK hP 0 rfl rfl 10 (by decide) hf71 (fun _ h9 => h9) rfl dX11_example_8 ?_
  refine va_getN (D := (dC, dI)) (ci := 7) (v := .ref (a 65)) (C := RX5) (T := TX5) (N := 13) hx hb hts hiX5 hown hK hP 1 rfl rfl 0 (by decide) (nf_52 hG) (fun _ h9 => h9) rfl dX11_example_11 ?_
  refine lv_iload_n hx hb dX11_example_14 rfl (lv_at hl 1 rfl) ?_
  refine lv_if_ne (tgt := 24) hx hb dX11_example_15 (by decide) (fun c_2 => ?_) (fun c_2 => ?_)
  · refine lv_iload_n hx hb dX11_example_24 rfl (lv_at hl 1 rfl) ?_
    refine lv_iconst (v := 1) hx hb dX11_example_25 (by decide) ?_
    refine lv_icmp_ne (tgt := 35) hx hb dX11_example_26 (by decide) (fun c_3 => ?_) (fun c_3 => ?_)
    · obtain ⟨as_2, hR_2, hT_2⟩ := GS_of (sx_2 hG)
      refine va_ldcSw hx hb hown hR_2 dX11_example_35 ?_
      have hPc := hP.sub (ws' := [((a 65), .inr (12, [.ref (a 66), .int 0])), ((a 66), .inl (g 0, 160, .inl (fun _ => 0)))]) [2, 3] rfl
      have hDc := hD.sub (ws' := [((a 65), .inr (12, [.ref (a 66), .int 0])), ((a 66), .inl (g 0, 160, .inl (fun _ => 0)))]) [2, 3] (by decide) rfl
      have hFc := va_free (wc := [((a 65), .inr (12, [.ref (a 66), .int 0])), ((a 66), .inl (g 0, 160, .inl (fun _ => 0)))]) hD hS hA [2, 3] rfl
      refine va_callv (va_runV (As := [.ref as_2]) (rest := []) ⟨hx, hb, hml, hown, hts⟩ (c_X10_replaceBy l dC dI g (a 65) (a 66) (lnS 2) as_2 (fun _ => 0) ((lnS_le _ (by decide)).1) ((lnS_le _ (by decide)).2) H_1.size) (cwV 1 hts gX11_example_X10_replaceBy rfl rfl rfl (by decide +kernel) ⟨Nat.le_of_ble_eq_true rfl, Nat.le_of_ble_eq_true rfl⟩) ⟨PX_blind (GS_go (lnS 2) as_2), va_recv hK hP (ci := 12) (q0 := 2) rfl rfl, PX_call (GS_go (lnS 2) as_2) hK hG hS hPc hDc hFc hT_2⟩ rfl rfl hl.1 rfl (lv_room (Nat.le_of_ble_eq_true rfl)) dX11_example_38 ⟨Nat.le_of_ble_eq_true rfl, Nat.le_of_ble_eq_true rfl⟩) hS (fun q _ h => hFc q h) hFc (fun u_4 t_4 H_4 L_4 ht_4 hvm_4 hw_4 hB_4 hz_4 hk_4 hS => ?_)
      obtain ⟨hP1, hD1⟩ := hB_4
      rw [ht_4] at hP1
      obtain ⟨hP, hD⟩ := va_join (wr := [((a 0), .inr (13, [.ref (a 1), .ref (a 4), .ref (a 5), .ref (a 6), .ref (a 8), .ref (a 9), .ref (a 12), .ref (a 16), .ref (a 22), .ref (a 43), .ref (a 64), .ref (a 69), .int 0])), ((a 64), .inr (7, [.ref (a 65), .ref (a 67), .ref (a 68), .int 0, .int 0, .int 0, .int 0, .int 0, .int 0, .int 0, .int 0, .int 0, .int (-1)]))]) (w1 := [((a 65), .inr (12, [.ref (a 66), .int (nI (lnS 2))])), ((a 66), .inl (g 0, 160, .inl u_4))]) hP hD [2, 3] [0, 1] rfl rfl (by decide) (by decide) hk_4 hFc hP1 hD1
      have hP : va_P (dC, dI) vwCl [((a 0), .inr (13, [.ref (a 1), .ref (a 4), .ref (a 5), .ref (a 6), .ref (a 8), .ref (a 9), .ref (a 12), .ref (a 16), .ref (a 22), .ref (a 43), .ref (a 64), .ref (a 69), .int 0])), ((a 64), .inr (7, [.ref (a 65), .ref (a 67), .ref (a 68), .int 0, .int 0, .int 0, .int 0, .int 0, .int 0, .int 0, .int 0, .int 0, .int (-1)])), ((a 65), .inr (12, [.ref (a 66), .int (nI (lnS 2))])), ((a 66), .inl (g 0, 160, .inl u_4))] H_4 := hP
      have hD : va_D A [((a 0), .inr (13, [.ref (a 1), .ref (a 4), .ref (a 5), .ref (a 6), .ref (a 8), .ref (a 9), .ref (a 12), .ref (a 16), .ref (a 22), .ref (a 43), .ref (a 64), .ref (a 69), .int 0])), ((a 64), .inr (7, [.ref (a 65), .ref (a 67), .ref (a 68), .int 0, .int 0, .int 0, .int 0, .int 0, .int 0, .int 0, .int 0, .int 0, .int (-1)])), ((a 65), .inr (12, [.ref (a 66), .int (nI (lnS 2))])), ((a 66), .inl (g 0, 160, .inl u_4))] := hD
      refine lv_aload_n hx hb dX11_example_41 rfl (lv_at hl 0 rfl) ?_
      refine va_get (D := (dC, dI)) (ci := 13) (v := .ref (a 64)) (C := RX11) (T := TX11) (N := 13) hx hb hts hiX11 hown hK hP 0 rfl rfl 10 (by decide) hf71 (fun _ h9 => h9) rfl dX11_example_42 ?_
      refine va_getN (D := (dC, dI)) (ci := 7) (v := .ref (a 65)) (C := RX5) (T := TX5) (N := 13) hx hb hts hiX5 hown hK hP 1 rfl rfl 0 (by decide) (nf_52 hG) (fun _ h9 => h9) rfl dX11_example_45 ?_
      refine va_getN (D := (dC, dI)) (ci := 12) (v := .int (nI (lnS 2))) (C := RX10) (T := TX10) (N := 2) hx hb hts hiX10 hown hK hP 2 rfl rfl 1 (by decide) (nf_51 hG) (fun _ h9 => h9) rfl dX11_example_48 ?_
      refine W.widen (k := 8) (n := 48) (by omega) (by omega) ?_
      refine vx_ret ?_
      exact W.iret (v := (nI (lnS 2))) hx hb hr (fun t ht hW => ⟨⟨(nI (lnS 2)), (), rfl, ⟨by simp [hw_1], by simp [exl, c_2, c_3]⟩, trivial⟩, hS.F ht⟩) hS.2.2 dX11_example_51
    · obtain ⟨as_1, hR_1, hT_1⟩ := GS_of (sx_1 hG)
      refine va_ldcSw hx hb hown hR_1 dX11_example_29 ?_
      refine lv_goto (tgt := 38) hx hb dX11_example_32 (by decide) ?_
      have hPc := hP.sub (ws' := [((a 65), .inr (12, [.ref (a 66), .int 0])), ((a 66), .inl (g 0, 160, .inl (fun _ => 0)))]) [2, 3] rfl
      have hDc := hD.sub (ws' := [((a 65), .inr (12, [.ref (a 66), .int 0])), ((a 66), .inl (g 0, 160, .inl (fun _ => 0)))]) [2, 3] (by decide) rfl
      have hFc := va_free (wc := [((a 65), .inr (12, [.ref (a 66), .int 0])), ((a 66), .inl (g 0, 160, .inl (fun _ => 0)))]) hD hS hA [2, 3] rfl
      refine va_callv (va_runV (As := [.ref as_1]) (rest := []) ⟨hx, hb, hml, hown, hts⟩ (c_X10_replaceBy l dC dI g (a 65) (a 66) (lnS 1) as_1 (fun _ => 0) ((lnS_le _ (by decide)).1) ((lnS_le _ (by decide)).2) H_1.size) (cwV 1 hts gX11_example_X10_replaceBy rfl rfl rfl (by decide +kernel) ⟨Nat.le_of_ble_eq_true rfl, Nat.le_of_ble_eq_true rfl⟩) ⟨PX_blind (GS_go (lnS 1) as_1), va_recv hK hP (ci := 12) (q0 := 2) rfl rfl, PX_call (GS_go (lnS 1) as_1) hK hG hS hPc hDc hFc hT_1⟩ rfl rfl hl.1 rfl (lv_room (Nat.le_of_ble_eq_true rfl)) dX11_example_38 ⟨Nat.le_of_ble_eq_true rfl, Nat.le_of_ble_eq_true rfl⟩) hS (fun q _ h => hFc q h) hFc (fun u_5 t_5 H_5 L_5 ht_5 hvm_5 hw_5 hB_5 hz_5 hk_5 hS => ?_)
      obtain ⟨hP1, hD1⟩ := hB_5
      rw [ht_5] at hP1
      obtain ⟨hP, hD⟩ := va_join (wr := [((a 0), .inr (13, [.ref (a 1), .ref (a 4), .ref (a 5), .ref (a 6), .ref (a 8), .ref (a 9), .ref (a 12), .ref (a 16), .ref (a 22), .ref (a 43), .ref (a 64), .ref (a 69), .int 0])), ((a 64), .inr (7, [.ref (a 65), .ref (a 67), .ref (a 68), .int 0, .int 0, .int 0, .int 0, .int 0, .int 0, .int 0, .int 0, .int 0, .int (-1)]))]) (w1 := [((a 65), .inr (12, [.ref (a 66), .int (nI (lnS 1))])), ((a 66), .inl (g 0, 160, .inl u_5))]) hP hD [2, 3] [0, 1] rfl rfl (by decide) (by decide) hk_5 hFc hP1 hD1
      have hP : va_P (dC, dI) vwCl [((a 0), .inr (13, [.ref (a 1), .ref (a 4), .ref (a 5), .ref (a 6), .ref (a 8), .ref (a 9), .ref (a 12), .ref (a 16), .ref (a 22), .ref (a 43), .ref (a 64), .ref (a 69), .int 0])), ((a 64), .inr (7, [.ref (a 65), .ref (a 67), .ref (a 68), .int 0, .int 0, .int 0, .int 0, .int 0, .int 0, .int 0, .int 0, .int 0, .int (-1)])), ((a 65), .inr (12, [.ref (a 66), .int (nI (lnS 1))])), ((a 66), .inl (g 0, 160, .inl u_5))] H_5 := hP
      have hD : va_D A [((a 0), .inr (13, [.ref (a 1), .ref (a 4), .ref (a 5), .ref (a 6), .ref (a 8), .ref (a 9), .ref (a 12), .ref (a 16), .ref (a 22), .ref (a 43), .ref (a 64), .ref (a 69), .int 0])), ((a 64), .inr (7, [.ref (a 65), .ref (a 67), .ref (a 68), .int 0, .int 0, .int 0, .int 0, .int 0, .int 0, .int 0, .int 0, .int 0, .int (-1)])), ((a 65), .inr (12, [.ref (a 66), .int (nI (lnS 1))])), ((a 66), .inl (g 0, 160, .inl u_5))] := hD
      refine lv_aload_n hx hb dX11_example_41 rfl (lv_at hl 0 rfl) ?_
      refine va_get (D := (dC, dI)) (ci := 13) (v := .ref (a 64)) (C := RX11) (T := TX11) (N := 13) hx hb hts hiX11 hown hK hP 0 rfl rfl 10 (by decide) hf71 (fun _ h9 => h9) rfl dX11_example_42 ?_
      refine va_getN (D := (dC, dI)) (ci := 7) (v := .ref (a 65)) (C := RX5) (T := TX5) (N := 13) hx hb hts hiX5 hown hK hP 1 rfl rfl 0 (by decide) (nf_52 hG) (fun _ h9 => h9) rfl dX11_example_45 ?_
      refine va_getN (D := (dC, dI)) (ci := 12) (v := .int (nI (lnS 1))) (C := RX10) (T := TX10) (N := 2) hx hb hts hiX10 hown hK hP 2 rfl rfl 1 (by decide) (nf_51 hG) (fun _ h9 => h9) rfl dX11_example_48 ?_
      refine W.widen (k := 8) (n := 48) (by omega) (by omega) ?_
      refine vx_ret ?_
      exact W.iret (v := (nI (lnS 1))) hx hb hr (fun t ht hW => ⟨⟨(nI (lnS 1)), (), rfl, ⟨by simp [hw_1], by simp [exl, c_2, c_3]⟩, trivial⟩, hS.F ht⟩) hS.2.2 dX11_example_51
  · obtain ⟨as_0, hR_0, hT_0⟩ := GS_of (sx_0 hG)
    refine va_ldcSw hx hb hown hR_0 dX11_example_18 ?_
    refine lv_goto (tgt := 38) hx hb dX11_example_21 (by decide) ?_
    have hPc := hP.sub (ws' := [((a 65), .inr (12, [.ref (a 66), .int 0])), ((a 66), .inl (g 0, 160, .inl (fun _ => 0)))]) [2, 3] rfl
    have hDc := hD.sub (ws' := [((a 65), .inr (12, [.ref (a 66), .int 0])), ((a 66), .inl (g 0, 160, .inl (fun _ => 0)))]) [2, 3] (by decide) rfl
    have hFc := va_free (wc := [((a 65), .inr (12, [.ref (a 66), .int 0])), ((a 66), .inl (g 0, 160, .inl (fun _ => 0)))]) hD hS hA [2, 3] rfl
    refine va_callv (va_runV (As := [.ref as_0]) (rest := []) ⟨hx, hb, hml, hown, hts⟩ (c_X10_replaceBy l dC dI g (a 65) (a 66) (lnS 0) as_0 (fun _ => 0) ((lnS_le _ (by decide)).1) ((lnS_le _ (by decide)).2) H_1.size) (cwV 1 hts gX11_example_X10_replaceBy rfl rfl rfl (by decide +kernel) ⟨Nat.le_of_ble_eq_true rfl, Nat.le_of_ble_eq_true rfl⟩) ⟨PX_blind (GS_go (lnS 0) as_0), va_recv hK hP (ci := 12) (q0 := 2) rfl rfl, PX_call (GS_go (lnS 0) as_0) hK hG hS hPc hDc hFc hT_0⟩ rfl rfl hl.1 rfl (lv_room (Nat.le_of_ble_eq_true rfl)) dX11_example_38 ⟨Nat.le_of_ble_eq_true rfl, Nat.le_of_ble_eq_true rfl⟩) hS (fun q _ h => hFc q h) hFc (fun u_6 t_6 H_6 L_6 ht_6 hvm_6 hw_6 hB_6 hz_6 hk_6 hS => ?_)
    obtain ⟨hP1, hD1⟩ := hB_6
    rw [ht_6] at hP1
    obtain ⟨hP, hD⟩ := va_join (wr := [((a 0), .inr (13, [.ref (a 1), .ref (a 4), .ref (a 5), .ref (a 6), .ref (a 8), .ref (a 9), .ref (a 12), .ref (a 16), .ref (a 22), .ref (a 43), .ref (a 64), .ref (a 69), .int 0])), ((a 64), .inr (7, [.ref (a 65), .ref (a 67), .ref (a 68), .int 0, .int 0, .int 0, .int 0, .int 0, .int 0, .int 0, .int 0, .int 0, .int (-1)]))]) (w1 := [((a 65), .inr (12, [.ref (a 66), .int (nI (lnS 0))])), ((a 66), .inl (g 0, 160, .inl u_6))]) hP hD [2, 3] [0, 1] rfl rfl (by decide) (by decide) hk_6 hFc hP1 hD1
    have hP : va_P (dC, dI) vwCl [((a 0), .inr (13, [.ref (a 1), .ref (a 4), .ref (a 5), .ref (a 6), .ref (a 8), .ref (a 9), .ref (a 12), .ref (a 16), .ref (a 22), .ref (a 43), .ref (a 64), .ref (a 69), .int 0])), ((a 64), .inr (7, [.ref (a 65), .ref (a 67), .ref (a 68), .int 0, .int 0, .int 0, .int 0, .int 0, .int 0, .int 0, .int 0, .int 0, .int (-1)])), ((a 65), .inr (12, [.ref (a 66), .int (nI (lnS 0))])), ((a 66), .inl (g 0, 160, .inl u_6))] H_6 := hP
    have hD : va_D A [((a 0), .inr (13, [.ref (a 1), .ref (a 4), .ref (a 5), .ref (a 6), .ref (a 8), .ref (a 9), .ref (a 12), .ref (a 16), .ref (a 22), .ref (a 43), .ref (a 64), .ref (a 69), .int 0])), ((a 64), .inr (7, [.ref (a 65), .ref (a 67), .ref (a 68), .int 0, .int 0, .int 0, .int 0, .int 0, .int 0, .int 0, .int 0, .int 0, .int (-1)])), ((a 65), .inr (12, [.ref (a 66), .int (nI (lnS 0))])), ((a 66), .inl (g 0, 160, .inl u_6))] := hD
    refine lv_aload_n hx hb dX11_example_41 rfl (lv_at hl 0 rfl) ?_
    refine va_get (D := (dC, dI)) (ci := 13) (v := .ref (a 64)) (C := RX11) (T := TX11) (N := 13) hx hb hts hiX11 hown hK hP 0 rfl rfl 10 (by decide) hf71 (fun _ h9 => h9) rfl dX11_example_42 ?_
    refine va_getN (D := (dC, dI)) (ci := 7) (v := .ref (a 65)) (C := RX5) (T := TX5) (N := 13) hx hb hts hiX5 hown hK hP 1 rfl rfl 0 (by decide) (nf_52 hG) (fun _ h9 => h9) rfl dX11_example_45 ?_
    refine va_getN (D := (dC, dI)) (ci := 12) (v := .int (nI (lnS 0))) (C := RX10) (T := TX10) (N := 2) hx hb hts hiX10 hown hK hP 2 rfl rfl 1 (by decide) (nf_51 hG) (fun _ h9 => h9) rfl dX11_example_48 ?_
    refine W.widen (k := 8) (n := 48) (by omega) (by omega) ?_
    refine vx_ret ?_
    exact W.iret (v := (nI (lnS 0))) hx hb hr (fun t ht hW => ⟨⟨(nI (lnS 0)), (), rfl, ⟨by simp [hw_1], by simp [exl, c_2]⟩, trivial⟩, hS.F ht⟩) hS.2.2 dX11_example_51
