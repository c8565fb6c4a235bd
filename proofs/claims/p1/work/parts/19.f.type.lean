theorem dX11_byteOf_0 : decode cX11_byteOf 0 = .ok (.lload_n 0, 1) := by decide +kernel
theorem dX11_byteOf_1 : decode cX11_byteOf 1 = .ok (.iload_n 2, 1) := by decide +kernel
theorem dX11_byteOf_2 : decode cX11_byteOf 2 = .ok (.lushr, 1) := by decide +kernel
theorem dX11_byteOf_3 : decode cX11_byteOf 3 = .ok (.ldc2_w 359, 3) := by decide +kernel
theorem dX11_byteOf_6 : decode cX11_byteOf 6 = .ok (.land, 1) := by decide +kernel
theorem dX11_byteOf_7 : decode cX11_byteOf 7 = .ok (.l2i, 1) := by decide +kernel
theorem dX11_byteOf_8 : decode cX11_byteOf 8 = .ok (.ireturn, 1) := by decide +kernel
theorem dX11_type_0 : decode cX11_type 0 = .ok (.iconst 0, 1) := by decide +kernel
theorem dX11_type_1 : decode cX11_type 1 = .ok (.istore_n 3, 1) := by decide +kernel
theorem dX11_type_2 : decode cX11_type 2 = .ok (.bipush 56, 2) := by decide +kernel
theorem dX11_type_4 : decode cX11_type 4 = .ok (.istore 4, 2) := by decide +kernel
theorem dX11_type_6 : decode cX11_type 6 = .ok (.iload 4, 2) := by decide +kernel
theorem dX11_type_8 : decode cX11_type 8 = .ok (.ifCond .lt 26, 3) := by decide +kernel
theorem dX11_type_34 : decode cX11_type 34 = .ok (.aload_n 0, 1) := by decide +kernel
theorem dX11_type_35 : decode cX11_type 35 = .ok (.getfield 71, 3) := by decide +kernel
theorem dX11_type_38 : decode cX11_type 38 = .ok (.getfield 305, 3) := by decide +kernel
theorem dX11_type_41 : decode cX11_type 41 = .ok (.getfield 309, 3) := by decide +kernel
theorem dX11_type_44 : decode cX11_type 44 = .ok (.iload_n 3, 1) := by decide +kernel
theorem dX11_type_45 : decode cX11_type 45 = .ok (.iadd, 1) := by decide +kernel
theorem dX11_type_46 : decode cX11_type 46 = .ok (.sipush 160, 3) := by decide +kernel
theorem dX11_type_49 : decode cX11_type 49 = .ok (.if_icmp .le 14, 3) := by decide +kernel
theorem dX11_type_63 : decode cX11_type 63 = .ok (.bipush 56, 2) := by decide +kernel
theorem dX11_type_65 : decode cX11_type 65 = .ok (.istore 4, 2) := by decide +kernel
theorem dX11_type_67 : decode cX11_type 67 = .ok (.iload 4, 2) := by decide +kernel
theorem dX11_type_69 : decode cX11_type 69 = .ok (.ifCond .lt 34, 3) := by decide +kernel
theorem dX11_type_103 : decode cX11_type 103 = .ok (.aload_n 0, 1) := by decide +kernel
theorem dX11_type_104 : decode cX11_type 104 = .ok (.getfield 71, 3) := by decide +kernel
theorem dX11_type_107 : decode cX11_type 107 = .ok (.getfield 305, 3) := by decide +kernel
theorem dX11_type_110 : decode cX11_type 110 = .ok (.getfield 309, 3) := by decide +kernel
theorem dX11_type_113 : decode cX11_type 113 = .ok (.ireturn, 1) := by decide +kernel
theorem dX11_type_72 : decode cX11_type 72 = .ok (.lload_n 1, 1) := by decide +kernel
theorem dX11_type_73 : decode cX11_type 73 = .ok (.iload 4, 2) := by decide +kernel
set_option maxRecDepth 20000 in
theorem ggX11_type_X11_byteOf : GoodIn wsX11_type wsX11_byteOf := goodIn_r _ [7, 8] (by decide +kernel) (by decide +kernel)
set_option maxRecDepth 20000 in
theorem gX11_type_X11_byteOf : GoodIn wsX11_type (va_wsS RX11 301 yX11_byteOf wsX11_byteOf) := goodIn_app (goodIn_of _ (by decide +kernel)) ggX11_type_X11_byteOf
theorem dX11_type_75 : decode cX11_type 75 = .ok (.invokestatic 301, 3) := by decide +kernel
theorem dX11_type_78 : decode cX11_type 78 = .ok (.istore 5, 2) := by decide +kernel
theorem dX11_type_80 : decode cX11_type 80 = .ok (.iload 5, 2) := by decide +kernel
theorem dX11_type_82 : decode cX11_type 82 = .ok (.ifCond .eq 15, 3) := by decide +kernel
theorem dX11_type_97 : decode cX11_type 97 = .ok (.iinc 4 (-8), 3) := by decide +kernel
theorem dX11_type_100 : decode cX11_type 100 = .ok (.goto (-33), 3) := by decide +kernel
theorem dX11_type_85 : decode cX11_type 85 = .ok (.aload_n 0, 1) := by decide +kernel
theorem dX11_type_86 : decode cX11_type 86 = .ok (.getfield 71, 3) := by decide +kernel
theorem dX11_type_89 : decode cX11_type 89 = .ok (.getfield 305, 3) := by decide +kernel
theorem dX11_type_92 : decode cX11_type 92 = .ok (.iload 5, 2) := by decide +kernel
set_option maxRecDepth 20000 in
theorem ggX11_type_X10_add : GoodIn wsX11_type wsX10_add := goodIn_r _ [13, 14, 15, 42, 43] (by decide +kernel) (by decide +kernel)
set_option maxRecDepth 20000 in
theorem gX11_type_X10_add : GoodIn wsX11_type (wsV RX11 314 RX10 yX10_add wsX10_add) := goodIn_app (goodIn_of _ (by decide +kernel)) ggX11_type_X10_add
theorem dX11_type_94 : decode cX11_type 94 = .ok (.invokevirtual 314, 3) := by decide +kernel
theorem dX11_type_11 : decode cX11_type 11 = .ok (.iload_n 3, 1) := by decide +kernel
theorem dX11_type_12 : decode cX11_type 12 = .ok (.lload_n 1, 1) := by decide +kernel
theorem dX11_type_13 : decode cX11_type 13 = .ok (.iload 4, 2) := by decide +kernel
theorem dX11_type_15 : decode cX11_type 15 = .ok (.invokestatic 301, 3) := by decide +kernel
theorem dX11_type_18 : decode cX11_type 18 = .ok (.ifCond .eq 7, 3) := by decide +kernel
theorem dX11_type_25 : decode cX11_type 25 = .ok (.iconst 0, 1) := by decide +kernel
theorem dX11_type_26 : decode cX11_type 26 = .ok (.iadd, 1) := by decide +kernel
theorem dX11_type_27 : decode cX11_type 27 = .ok (.istore_n 3, 1) := by decide +kernel
theorem dX11_type_28 : decode cX11_type 28 = .ok (.iinc 4 (-8), 3) := by decide +kernel
theorem dX11_type_31 : decode cX11_type 31 = .ok (.goto (-25), 3) := by decide +kernel
theorem dX11_type_21 : decode cX11_type 21 = .ok (.iconst 1, 1) := by decide +kernel
theorem dX11_type_22 : decode cX11_type 22 = .ok (.goto 4, 3) := by decide +kernel
/-- a byte of a long -/
def byt (y : Int64) (k : Int32) : Int32 := ((y.toUInt64 >>> (k.toInt64.toUInt64 &&& Int64.toUInt64 63)).toInt64 &&& 255).toInt32
/-- how many of the first bytes are none 0 -/
def ct (y : Int64) : Nat → Nat
  | 0 => 0
  | j + 1 => ct y j + (if byt y (nI (56 - 8 * j)) = 0 then 0 else 1)
theorem ct_le (y : Int64) : ∀ j, ct y j ≤ j
  | 0 => Nat.le_refl 0
  | j + 1 => by
    have h := ct_le y j
    show ct y j + (if byt y (nI (56 - 8 * j)) = 0 then 0 else 1) ≤ j + 1
    by_cases q : byt y (nI (56 - 8 * j)) = 0
    · rw [if_pos q]; omega
    · rw [if_neg q]; omega
set_option maxHeartbeats 4000000 in
set_option maxRecDepth 100000 in
theorem c_X11_byteOf (l : Launch) (dC : Nat → ClassId) (dI : Nat → Nat → Nat) (g : Nat → ClassId) (Wd : va_W) (y : Int64) (k : Int32) (sz : Nat) : Met l yX11_byteOf wsX11_byteOf ({ frames := 0, cells := 0, slots := 0, locals := 0 }) (va_Pc [.long y, .int k] (PG (dC, dI) g Wd sz)) (va_Qi (fun (r : Int32) (_ : Unit) => r = byt y k) (fun (_ : Unit) t => va_P (dC, dI) vwCl Wd t.heap) (va_A Wd sz)) 0 0 (va_A Wd sz) := by
  refine Met.ofW (cc := cX11_byteOf) (maxL := 3) (ret := (some .int)) (by decide) rfl ?_
  intro p e s m args below meth c s₁ B hml hv
  obtain ⟨rfl, hsz, hP, hK, hD0, hG⟩ := hv
  have hx := B.exec
  have hb := B.bytes
  have hr := B.returns
  have hts := atoms_spec (ws := wsX11_byteOf) B.pre
  have hown : s.vm.findClass RX11 = some m.cls := findClass_of_methodNamed B.named
  have hlocks := B.notSynchronized
  subst hsz
  have hD := hD0.self (sz := s.heap.size)
  generalize hAe : va_A Wd s.heap.size = A at hD hG ⊢
  have hA : ∀ q : Nat, s.heap.size ≤ q → A q := fun q h => by rw [← hAe]; exact Or.inr h
  have hS : va_S A s.heap s.heap [] := va_S.rf
  have hl := lv_entry ([.long y, .int k]) (n := 3) (Nat.le_of_ble_eq_true rfl)
  rw [lg_entry_eq]
  generalize (lg_sl ([.long y, .int k]) ++ List.replicate (3 - (lg_sl ([.long y, .int k])).length) Slot.unset).toArray = ls at hl ⊢
  have hl : lv_has ls 3 [(0, .long y), (2, .int k)] := hl
  have hk359 := hts (Jvm.Cond.constantLong RX11 359 255) (by decide +kernel)
  refine lv_lload_n hx hb dX11_byteOf_0 rfl (lv_at hl 0 rfl) ?_
  refine lv_iload_n hx hb dX11_byteOf_1 rfl (lv_at hl 1 rfl) ?_
  refine lv_lushr hx hb dX11_byteOf_2 rfl ?_
  refine lv_topl (fun x_1 ex_1 => ?_)
  refine lv_ldc2 hx hb hown hk359 dX11_byteOf_3 ?_
  refine lv_land hx hb dX11_byteOf_6 ?_
  refine lv_topl (fun x_2 ex_2 => ?_)
  refine lv_l2i (v := x_2.toInt32) hx hb dX11_byteOf_7 rfl ?_
  refine lv_topi (fun x_3 ex_3 => ?_)
  exact W.iret (v := x_3) hx hb hr (fun t ht hW => ⟨⟨x_3, (), rfl, (by rw [ex_3, ex_2, ex_1]; rfl), P_at ht hP⟩, hS.F ht⟩) hS.2.2 dX11_byteOf_8
set_option maxHeartbeats 4000000 in
set_option maxRecDepth 100000 in
theorem c_X11_type (l : Launch) (dC : Nat → ClassId) (dI : Nat → Nat → Nat) (g : Nat → ClassId) (a : Nat → Nat) (y : Int64) (sz : Nat) : Met l yX11_type wsX11_type ({ frames := 1, cells := 0, slots := 0, locals := 22 }) (va_Pc [.ref (a 0), .long y] (PG (dC, dI) g (offW a g) sz)) (va_Qi (fun (r : Int32) (_ : Unit) => r = nI (ct y 8)) (fun (_ : Unit) (_ : State) => True) (va_A (offW a g) sz)) 0 0 (va_A (offW a g) sz) := by
  refine Met.ofW (cc := cX11_type) (maxL := 6) (ret := (some .int)) (by decide) rfl ?_
  intro p e s m args below meth c s₁ B hml hv
  obtain ⟨rfl, hsz, hP, hK, hD0, hG⟩ := hv
  have hx := B.exec
  have hb := B.bytes
  have hr := B.returns
  have hts := atoms_spec (ws := wsX11_type) B.pre
  have hown : s.vm.findClass RX11 = some m.cls := findClass_of_methodNamed B.named
  have hlocks := B.notSynchronized
  subst hsz
  have hD := hD0.self (sz := s.heap.size)
  generalize hAe : va_A (offW a g) s.heap.size = A at hD hG ⊢
  have hA : ∀ q : Nat, s.heap.size ≤ q → A q := fun q h => by rw [← hAe]; exact Or.inr h
  have hS : va_S A s.heap s.heap [] := va_S.rf
  have hl := lv_entry ([.ref (a 0), .long y]) (n := 6) (Nat.le_of_ble_eq_true rfl)
  rw [lg_entry_eq]
  generalize (lg_sl ([.ref (a 0), .long y]) ++ List.replicate (6 - (lg_sl ([.ref (a 0), .long y])).length) Slot.unset).toArray = ls at hl ⊢
  have hl : lv_has ls 6 [(0, .ref (a 0)), (1, .long y)] := hl
  have hf71 := hts (Cond.fieldLink RX11 71 "RunmergeOffice" "reader" "LRunmergeOffice$Reader;") (by decide +kernel)
  have hiX11 : ∀ w ∈ u_ws RX11 TX11 13, w ∈ wsX11_type := by decide +kernel
  have hiX5 : ∀ w ∈ u_ws RX5 TX5 13, w ∈ wsX11_type := by decide +kernel
  have hiX10 : ∀ w ∈ u_ws RX10 TX10 2, w ∈ wsX11_type := by decide +kernel
  refine lv_iconst (v := 0) hx hb dX11_type_0 (by decide) ?_
  refine lv_istore_n (lv' := [(3, .int 0), (0, .ref (a 0)), (1, .long y)]) hx hb dX11_type_1 rfl hl (by decide) rfl (fun ls hl => ?_)
  refine lv_bipush (v := 56) hx hb dX11_type_2 (by decide) ?_
  refine lv_istore (lv' := [(4, .int 56), (3, .int 0), (0, .ref (a 0)), (1, .long y)]) hx hb dX11_type_4 hl (by decide) rfl (fun ls hl => ?_)
  refine W_abs (fun Q hQ => ?_)
  have HD6_8 : ∀ (j : Nat) (H : Heap) (locs : List Loc), j ≤ 8 → va_P (dC, dI) vwCl (offW a g) H → va_S A s.heap H locs → ∀ (ls : Array Slot), lv_has ls 6 [(4, .int (-8)), (0, .ref (a 0)), (1, .long y), (3, .int (nI j))] → W p l e (headSpec wsX11_type ({ frames := 1, cells := 0, slots := 0, locals := 22 })).room s m ([.ref (a 0), .long y] : List Value).toArray below meth c H locs 0 0 Q (F0 m 6 ls []) := by
    intro j H locs hj hP hS ls hl
    refine lv_iload hx hb dX11_type_6 (lv_at hl 0 rfl) ?_
    refine lv_if_lt (tgt := 34) hx hb dX11_type_8 (by decide) (fun c_1 => ?_) (fun c_1 => absurd (by decide) c_1)
    replace hP := hP.sub (ws' := [((a 0), .inr (13, [.ref (a 1), .ref (a 4), .ref (a 5), .ref (a 6), .ref (a 8), .ref (a 9), .ref (a 12), .ref (a 16), .ref (a 22), .ref (a 43), .ref (a 64), .ref (a 69), .int 0])), ((a 64), .inr (7, [.ref (a 65), .ref (a 67), .ref (a 68), .int 0, .int 0, .int 0, .int 0, .int 0, .int 0, .int 0, .int 0, .int 0, .int (-1)])), ((a 65), .inr (12, [.ref (a 66), .int 0])), ((a 66), .inl (g 0, 160, .inl (fun _ => 0)))]) [0, 64, 65, 66] rfl
    replace hD := hD.sub (ws' := [((a 0), .inr (13, [.ref (a 1), .ref (a 4), .ref (a 5), .ref (a 6), .ref (a 8), .ref (a 9), .ref (a 12), .ref (a 16), .ref (a 22), .ref (a 43), .ref (a 64), .ref (a 69), .int 0])), ((a 64), .inr (7, [.ref (a 65), .ref (a 67), .ref (a 68), .int 0, .int 0, .int 0, .int 0, .int 0, .int 0, .int 0, .int 0, .int 0, .int (-1)])), ((a 65), .inr (12, [.ref (a 66), .int 0])), ((a 66), .inl (g 0, 160, .inl (fun _ => 0)))]) [0, 64, 65, 66] (by decide) rfl
    have hP : va_P (dC, dI) vwCl [((a 0), .inr (13, [.ref (a 1), .ref (a 4), .ref (a 5), .ref (a 6), .ref (a 8), .ref (a 9), .ref (a 12), .ref (a 16), .ref (a 22), .ref (a 43), .ref (a 64), .ref (a 69), .int 0])), ((a 64), .inr (7, [.ref (a 65), .ref (a 67), .ref (a 68), .int 0, .int 0, .int 0, .int 0, .int 0, .int 0, .int 0, .int 0, .int 0, .int (-1)])), ((a 65), .inr (12, [.ref (a 66), .int 0])), ((a 66), .inl (g 0, 160, .inl (fun _ => 0)))] H := hP
    have hD : va_D A [((a 0), .inr (13, [.ref (a 1), .ref (a 4), .ref (a 5), .ref (a 6), .ref (a 8), .ref (a 9), .ref (a 12), .ref (a 16), .ref (a 22), .ref (a 43), .ref (a 64), .ref (a 69), .int 0])), ((a 64), .inr (7, [.ref (a 65), .ref (a 67), .ref (a 68), .int 0, .int 0, .int 0, .int 0, .int 0, .int 0, .int 0, .int 0, .int 0, .int (-1)])), ((a 65), .inr (12, [.ref (a 66), .int 0])), ((a 66), .inl (g 0, 160, .inl (fun _ => 0)))] := hD
    refine lv_aload_n hx hb dX11_type_34 rfl (lv_at hl 1 rfl) ?_
    refine va_get (D := (dC, dI)) (ci := 13) (v := .ref (a 64)) (C := RX11) (T := TX11) (N := 13) hx hb hts hiX11 hown hK hP 0 rfl rfl 10 (by decide) hf71 (fun _ h9 => h9) rfl dX11_type_35 ?_
    refine va_getN (D := (dC, dI)) (ci := 7) (v := .ref (a 65)) (C := RX5) (T := TX5) (N := 13) hx hb hts hiX5 hown hK hP 1 rfl rfl 0 (by decide) (nf_52 hG) (fun _ h9 => h9) rfl dX11_type_38 ?_
    refine va_getN (D := (dC, dI)) (ci := 12) (v := .int 0) (C := RX10) (T := TX10) (N := 2) hx hb hts hiX10 hown hK hP 2 rfl rfl 1 (by decide) (nf_51 hG) (fun _ h9 => h9) rfl dX11_type_41 ?_
    refine lv_iload_n hx hb dX11_type_44 rfl (lv_at hl 3 rfl) ?_
    refine lv_iadd hx hb dX11_type_45 ?_
    refine lv_topi (fun x_2 ex_2 => ?_)
    refine lv_sipush (v := 160) hx hb dX11_type_46 (by decide) ?_
    refine lv_icmp_le (tgt := 63) hx hb dX11_type_49 (by decide) (fun c_3 => ?_) (fun c_3 => absurd (by rw [ex_2, Int32.zero_add]; exact nI_le (b := 160) (by omega) (by decide)) c_3)
    refine lv_bipush (v := 56) hx hb dX11_type_63 (by decide) ?_
    refine lv_istore (lv' := [(4, .int 56), (0, .ref (a 0)), (1, .long y), (3, .int (nI j))]) hx hb dX11_type_65 hl (by decide) rfl (fun ls hl => ?_)
    have HD67_8 : ∀ (fx : Nat → Int32) (H : Heap) (locs : List Loc), va_P (dC, dI) vwCl [((a 0), .inr (13, [.ref (a 1), .ref (a 4), .ref (a 5), .ref (a 6), .ref (a 8), .ref (a 9), .ref (a 12), .ref (a 16), .ref (a 22), .ref (a 43), .ref (a 64), .ref (a 69), .int 0])), ((a 64), .inr (7, [.ref (a 65), .ref (a 67), .ref (a 68), .int 0, .int 0, .int 0, .int 0, .int 0, .int 0, .int 0, .int 0, .int 0, .int (-1)])), ((a 65), .inr (12, [.ref (a 66), .int (nI (ct y 8))])), ((a 66), .inl (g 0, 160, .inl fx))] H → va_D A [((a 0), .inr (13, [.ref (a 1), .ref (a 4), .ref (a 5), .ref (a 6), .ref (a 8), .ref (a 9), .ref (a 12), .ref (a 16), .ref (a 22), .ref (a 43), .ref (a 64), .ref (a 69), .int 0])), ((a 64), .inr (7, [.ref (a 65), .ref (a 67), .ref (a 68), .int 0, .int 0, .int 0, .int 0, .int 0, .int 0, .int 0, .int 0, .int 0, .int (-1)])), ((a 65), .inr (12, [.ref (a 66), .int (nI (ct y 8))])), ((a 66), .inl (g 0, 160, .inl fx))] → va_S A s.heap H locs → ∀ (ls : Array Slot), lv_has ls 6 [(4, .int (-8)), (0, .ref (a 0)), (1, .long y)] → W p l e (headSpec wsX11_type ({ frames := 1, cells := 0, slots := 0, locals := 22 })).room s m ([.ref (a 0), .long y] : List Value).toArray below meth c H locs 0 0 Q (F0 m 67 ls []) := by
      intro fx H locs  hP hD hS ls hl
      refine lv_iload hx hb dX11_type_67 (lv_at hl 0 rfl) ?_
      refine lv_if_lt (tgt := 103) hx hb dX11_type_69 (by decide) (fun c_4 => ?_) (fun c_4 => absurd (by decide) c_4)
      refine lv_aload_n hx hb dX11_type_103 rfl (lv_at hl 1 rfl) ?_
      refine va_get (D := (dC, dI)) (ci := 13) (v := .ref (a 64)) (C := RX11) (T := TX11) (N := 13) hx hb hts hiX11 hown hK hP 0 rfl rfl 10 (by decide) hf71 (fun _ h9 => h9) rfl dX11_type_104 ?_
      refine va_getN (D := (dC, dI)) (ci := 7) (v := .ref (a 65)) (C := RX5) (T := TX5) (N := 13) hx hb hts hiX5 hown hK hP 1 rfl rfl 0 (by decide) (nf_52 hG) (fun _ h9 => h9) rfl dX11_type_107 ?_
      refine va_getN (D := (dC, dI)) (ci := 12) (v := .int (nI (ct y 8))) (C := RX10) (T := TX10) (N := 2) hx hb hts hiX10 hown hK hP 2 rfl rfl 1 (by decide) (nf_51 hG) (fun _ h9 => h9) rfl dX11_type_110 ?_
      subst hQ
      exact W.iret (v := (nI (ct y 8))) hx hb hr (fun t ht hW => ⟨⟨(nI (ct y 8)), (), rfl, rfl, trivial⟩, hS.F ht⟩) hS.2.2 dX11_type_113
    have HD67_7 : ∀ (fx : Nat → Int32) (H : Heap) (locs : List Loc), va_P (dC, dI) vwCl [((a 0), .inr (13, [.ref (a 1), .ref (a 4), .ref (a 5), .ref (a 6), .ref (a 8), .ref (a 9), .ref (a 12), .ref (a 16), .ref (a 22), .ref (a 43), .ref (a 64), .ref (a 69), .int 0])), ((a 64), .inr (7, [.ref (a 65), .ref (a 67), .ref (a 68), .int 0, .int 0, .int 0, .int 0, .int 0, .int 0, .int 0, .int 0, .int 0, .int (-1)])), ((a 65), .inr (12, [.ref (a 66), .int (nI (ct y 7))])), ((a 66), .inl (g 0, 160, .inl fx))] H → va_D A [((a 0), .inr (13, [.ref (a 1), .ref (a 4), .ref (a 5), .ref (a 6), .ref (a 8), .ref (a 9), .ref (a 12), .ref (a 16), .ref (a 22), .ref (a 43), .ref (a 64), .ref (a 69), .int 0])), ((a 64), .inr (7, [.ref (a 65), .ref (a 67), .ref (a 68), .int 0, .int 0, .int 0, .int 0, .int 0, .int 0, .int 0, .int 0, .int 0, .int (-1)])), ((a 65), .inr (12, [.ref (a 66), .int (nI (ct y 7))])), ((a 66), .inl (g 0, 160, .inl fx))] → va_S A s.heap H locs → ∀ (ls : Array Slot), lv_has ls 6 [(4, .int 0), (0, .ref (a 0)), (1, .long y)] → W p l e (headSpec wsX11_type ({ frames := 1, cells := 0, slots := 0, locals := 22 })).room s m ([.ref (a 0), .long y] : List Value).toArray below meth c H locs 0 0 Q (F0 m 67 ls []) := by
      intro fx H locs  hP hD hS ls hl
      refine lv_iload hx hb dX11_type_67 (lv_at hl 0 rfl) ?_
      refine lv_if_lt (tgt := 103) hx hb dX11_type_69 (by decide) (fun c_5 => absurd c_5 (by decide)) (fun c_5 => ?_)
      refine lv_lload_n hx hb dX11_type_72 rfl (lv_at hl 2 rfl) ?_
      refine lv_iload hx hb dX11_type_73 (lv_at hl 0 rfl) ?_
      refine va_calli (va_runS (As := [.long y, .int 0]) (rest := []) ⟨hx, hb, hml, hown, hts⟩ (c_X11_byteOf l dC dI g [((a 0), .inr (13, [.ref (a 1), .ref (a 4), .ref (a 5), .ref (a 6), .ref (a 8), .ref (a 9), .ref (a 12), .ref (a 16), .ref (a 22), .ref (a 43), .ref (a 64), .ref (a 69), .int 0])), ((a 64), .inr (7, [.ref (a 65), .ref (a 67), .ref (a 68), .int 0, .int 0, .int 0, .int 0, .int 0, .int 0, .int 0, .int 0, .int 0, .int (-1)])), ((a 65), .inr (12, [.ref (a 66), .int (nI (ct y 7))])), ((a 66), .inl (g 0, 160, .inl fx))] y 0   H.size) (va_cwS 2 hts gX11_type_X11_byteOf rfl rfl rfl (by decide +kernel) ⟨Nat.le_of_ble_eq_true rfl, Nat.le_of_ble_eq_true rfl⟩) ⟨PG_blind, PG_call hK hG hS hP hD (A_all hD hA hS.1)⟩ rfl rfl hl.1 rfl (lv_room (Nat.le_of_ble_eq_true rfl)) dX11_type_75 ⟨Nat.le_of_ble_eq_true rfl, Nat.le_of_ble_eq_true rfl⟩) hS (fun q _ h => (A_all hD hA hS.1) q h) (A_all hD hA hS.1) (fun r_6 u_6 t_6 H_6 L_6 ht_6 hvm_6 hw_6 hB_6 hz_6 hk_6 hS => ?_)
      replace hB_6 := (show va_P (dC, dI) vwCl [((a 0), .inr (13, [.ref (a 1), .ref (a 4), .ref (a 5), .ref (a 6), .ref (a 8), .ref (a 9), .ref (a 12), .ref (a 16), .ref (a 22), .ref (a 43), .ref (a 64), .ref (a 69), .int 0])), ((a 64), .inr (7, [.ref (a 65), .ref (a 67), .ref (a 68), .int 0, .int 0, .int 0, .int 0, .int 0, .int 0, .int 0, .int 0, .int 0, .int (-1)])), ((a 65), .inr (12, [.ref (a 66), .int (nI (ct y 7))])), ((a 66), .inl (g 0, 160, .inl fx))] t_6.heap from hB_6)
      rw [ht_6] at hB_6
      have hP := hB_6
      obtain rfl : r_6 = byt y 0 := hw_6
      refine lv_topi (fun x_7 ex_7 => ?_)
      refine lv_istore (lv' := [(5, .int x_7), (4, .int 0), (0, .ref (a 0)), (1, .long y)]) hx hb dX11_type_78 hl (by decide) rfl (fun ls hl => ?_)
      refine lv_iload hx hb dX11_type_80 (lv_at hl 0 rfl) ?_
      refine lv_if_eq (tgt := 97) hx hb dX11_type_82 (by decide) (fun c_8 => ?_) (fun c_8 => ?_)
      · refine lv_iinc (v := (-8)) (lv' := [(4, .int (-8)), (5, .int x_7), (0, .ref (a 0)), (1, .long y)]) hx hb dX11_type_97 hl (k := 1) rfl (by decide) (by decide) rfl (fun ls hl => ?_)
        refine lv_goto (tgt := 67) hx hb dX11_type_100 (by decide) ?_
        have e9 : ct y 8 = ct y 7 := (show ct y 8 = ct y 7 + (if byt y 0 = 0 then 0 else 1) from rfl).trans (by rw [if_pos (by rw [← ex_7]; exact c_8), Nat.add_zero])
        have hP8 : va_P (dC, dI) vwCl [((a 0), .inr (13, [.ref (a 1), .ref (a 4), .ref (a 5), .ref (a 6), .ref (a 8), .ref (a 9), .ref (a 12), .ref (a 16), .ref (a 22), .ref (a 43), .ref (a 64), .ref (a 69), .int 0])), ((a 64), .inr (7, [.ref (a 65), .ref (a 67), .ref (a 68), .int 0, .int 0, .int 0, .int 0, .int 0, .int 0, .int 0, .int 0, .int 0, .int (-1)])), ((a 65), .inr (12, [.ref (a 66), .int (nI (ct y 8))])), ((a 66), .inl (g 0, 160, .inl fx))] H_6 := by rw [e9]; exact hP.sub [0, 1, 2, 3] rfl
        have hD8 : va_D A [((a 0), .inr (13, [.ref (a 1), .ref (a 4), .ref (a 5), .ref (a 6), .ref (a 8), .ref (a 9), .ref (a 12), .ref (a 16), .ref (a 22), .ref (a 43), .ref (a 64), .ref (a 69), .int 0])), ((a 64), .inr (7, [.ref (a 65), .ref (a 67), .ref (a 68), .int 0, .int 0, .int 0, .int 0, .int 0, .int 0, .int 0, .int 0, .int 0, .int (-1)])), ((a 65), .inr (12, [.ref (a 66), .int (nI (ct y 8))])), ((a 66), .inl (g 0, 160, .inl fx))] := by rw [e9]; exact hD.sub [0, 1, 2, 3] (by decide) rfl
        exact HD67_8 fx _ _  hP8 hD8 hS _ (lv_sub hl [0, 2, 3] rfl)
      · refine lv_aload_n hx hb dX11_type_85 rfl (lv_at hl 2 rfl) ?_
        refine va_get (D := (dC, dI)) (ci := 13) (v := .ref (a 64)) (C := RX11) (T := TX11) (N := 13) hx hb hts hiX11 hown hK hP 0 rfl rfl 10 (by decide) hf71 (fun _ h9 => h9) rfl dX11_type_86 ?_
        refine va_getN (D := (dC, dI)) (ci := 7) (v := .ref (a 65)) (C := RX5) (T := TX5) (N := 13) hx hb hts hiX5 hown hK hP 1 rfl rfl 0 (by decide) (nf_52 hG) (fun _ h9 => h9) rfl dX11_type_89 ?_
        refine lv_iload hx hb dX11_type_92 (lv_at hl 0 rfl) ?_
        have hPc := hP.sub (ws' := [((a 65), .inr (12, [.ref (a 66), .int (nI (ct y 7))])), ((a 66), .inl (g 0, 160, .inl fx))]) [2, 3] rfl
        have hDc := hD.sub (ws' := [((a 65), .inr (12, [.ref (a 66), .int (nI (ct y 7))])), ((a 66), .inl (g 0, 160, .inl fx))]) [2, 3] (by decide) rfl
        have hFc := va_free (wc := [((a 65), .inr (12, [.ref (a 66), .int (nI (ct y 7))])), ((a 66), .inl (g 0, 160, .inl fx))]) hD hS hA [2, 3] rfl
        refine va_callv (va_runV (As := [.int x_7]) (rest := []) ⟨hx, hb, hml, hown, hts⟩ (c_X10_add l dC dI g (a 65) (a 66) (ct y 7) fx x_7 (Nat.lt_of_le_of_lt (ct_le y _) (by decide)) H_6.size) (cwV 1 hts gX11_type_X10_add rfl rfl rfl (by decide +kernel) ⟨Nat.le_of_ble_eq_true rfl, Nat.le_of_ble_eq_true rfl⟩) ⟨PG_blind, va_recv hK hP (ci := 12) (q0 := 2) rfl rfl, PG_call hK hG hS hPc hDc hFc⟩ rfl rfl hl.1 rfl (lv_room (Nat.le_of_ble_eq_true rfl)) dX11_type_94 ⟨Nat.le_of_ble_eq_true rfl, Nat.le_of_ble_eq_true rfl⟩) hS (fun q _ h => hFc q h) hFc (fun u_9 t_9 H_9 L_9 ht_9 hvm_9 hw_9 hB_9 hz_9 hk_9 hS => ?_)
        obtain ⟨hP1, hD1⟩ := hB_9
        rw [ht_9] at hP1
        obtain ⟨hP, hD⟩ := va_join (wr := [((a 0), .inr (13, [.ref (a 1), .ref (a 4), .ref (a 5), .ref (a 6), .ref (a 8), .ref (a 9), .ref (a 12), .ref (a 16), .ref (a 22), .ref (a 43), .ref (a 64), .ref (a 69), .int 0])), ((a 64), .inr (7, [.ref (a 65), .ref (a 67), .ref (a 68), .int 0, .int 0, .int 0, .int 0, .int 0, .int 0, .int 0, .int 0, .int 0, .int (-1)]))]) (w1 := [((a 65), .inr (12, [.ref (a 66), .int (nI ((ct y 7) + 1))])), ((a 66), .inl (g 0, 160, .inl (upd fx (nI (ct y 7)).toNatClampNeg x_7)))]) hP hD [2, 3] [0, 1] rfl rfl (by decide) (by decide) hk_9 hFc hP1 hD1
        have hP : va_P (dC, dI) vwCl [((a 0), .inr (13, [.ref (a 1), .ref (a 4), .ref (a 5), .ref (a 6), .ref (a 8), .ref (a 9), .ref (a 12), .ref (a 16), .ref (a 22), .ref (a 43), .ref (a 64), .ref (a 69), .int 0])), ((a 64), .inr (7, [.ref (a 65), .ref (a 67), .ref (a 68), .int 0, .int 0, .int 0, .int 0, .int 0, .int 0, .int 0, .int 0, .int 0, .int (-1)])), ((a 65), .inr (12, [.ref (a 66), .int (nI ((ct y 7) + 1))])), ((a 66), .inl (g 0, 160, .inl (upd fx (nI (ct y 7)).toNatClampNeg x_7)))] H_9 := hP
        have hD : va_D A [((a 0), .inr (13, [.ref (a 1), .ref (a 4), .ref (a 5), .ref (a 6), .ref (a 8), .ref (a 9), .ref (a 12), .ref (a 16), .ref (a 22), .ref (a 43), .ref (a 64), .ref (a 69), .int 0])), ((a 64), .inr (7, [.ref (a 65), .ref (a 67), .ref (a 68), .int 0, .int 0, .int 0, .int 0, .int 0, .int 0, .int 0, .int 0, .int 0, .int (-1)])), ((a 65), .inr (12, [.ref (a 66), .int (nI ((ct y 7) + 1))])), ((a 66), .inl (g 0, 160, .inl (upd fx (nI (ct y 7)).toNatClampNeg x_7)))] := hD
        refine lv_iinc (v := (-8)) (lv' := [(4, .int (-8)), (5, .int x_7), (0, .ref (a 0)), (1, .long y)]) hx hb dX11_type_97 hl (k := 1) rfl (by decide) (by decide) rfl (fun ls hl => ?_)
        refine lv_goto (tgt := 67) hx hb dX11_type_100 (by decide) ?_
        have e9 : ct y 8 = ct y 7 + 1 := (show ct y 8 = ct y 7 + (if byt y 0 = 0 then 0 else 1) from rfl).trans (by rw [if_neg (by rw [← ex_7]; exact c_8)])
        have hP8 : va_P (dC, dI) vwCl [((a 0), .inr (13, [.ref (a 1), .ref (a 4), .ref (a 5), .ref (a 6), .ref (a 8), .ref (a 9), .ref (a 12), .ref (a 16), .ref (a 22), .ref (a 43), .ref (a 64), .ref (a 69), .int 0])), ((a 64), .inr (7, [.ref (a 65), .ref (a 67), .ref (a 68), .int 0, .int 0, .int 0, .int 0, .int 0, .int 0, .int 0, .int 0, .int 0, .int (-1)])), ((a 65), .inr (12, [.ref (a 66), .int (nI (ct y 8))])), ((a 66), .inl (g 0, 160, .inl (upd fx (nI (ct y 7)).toNatClampNeg x_7)))] H_9 := by rw [e9]; exact hP.sub [0, 1, 2, 3] rfl
        have hD8 : va_D A [((a 0), .inr (13, [.ref (a 1), .ref (a 4), .ref (a 5), .ref (a 6), .ref (a 8), .ref (a 9), .ref (a 12), .ref (a 16), .ref (a 22), .ref (a 43), .ref (a 64), .ref (a 69), .int 0])), ((a 64), .inr (7, [.ref (a 65), .ref (a 67), .ref (a 68), .int 0, .int 0, .int 0, .int 0, .int 0, .int 0, .int 0, .int 0, .int 0, .int (-1)])), ((a 65), .inr (12, [.ref (a 66), .int (nI (ct y 8))])), ((a 66), .inl (g 0, 160, .inl (upd fx (nI (ct y 7)).toNatClampNeg x_7)))] := by rw [e9]; exact hD.sub [0, 1, 2, 3] (by decide) rfl
        exact HD67_8 (upd fx (nI (ct y 7)).toNatClampNeg x_7) _ _  hP8 hD8 hS _ (lv_sub hl [0, 2, 3] rfl)
    have HD67_6 : ∀ (fx : Nat → Int32) (H : Heap) (locs : List Loc), va_P (dC, dI) vwCl [((a 0), .inr (13, [.ref (a 1), .ref (a 4), .ref (a 5), .ref (a 6), .ref (a 8), .ref (a 9), .ref (a 12), .ref (a 16), .ref (a 22), .ref (a 43), .ref (a 64), .ref (a 69), .int 0])), ((a 64), .inr (7, [.ref (a 65), .ref (a 67), .ref (a 68), .int 0, .int 0, .int 0, .int 0, .int 0, .int 0, .int 0, .int 0, .int 0, .int (-1)])), ((a 65), .inr (12, [.ref (a 66), .int (nI (ct y 6))])), ((a 66), .inl (g 0, 160, .inl fx))] H → va_D A [((a 0), .inr (13, [.ref (a 1), .ref (a 4), .ref (a 5), .ref (a 6), .ref (a 8), .ref (a 9), .ref (a 12), .ref (a 16), .ref (a 22), .ref (a 43), .ref (a 64), .ref (a 69), .int 0])), ((a 64), .inr (7, [.ref (a 65), .ref (a 67), .ref (a 68), .int 0, .int 0, .int 0, .int 0, .int 0, .int 0, .int 0, .int 0, .int 0, .int (-1)])), ((a 65), .inr (12, [.ref (a 66), .int (nI (ct y 6))])), ((a 66), .inl (g 0, 160, .inl fx))] → va_S A s.heap H locs → ∀ (ls : Array Slot), lv_has ls 6 [(4, .int 8), (0, .ref (a 0)), (1, .long y)] → W p l e (headSpec wsX11_type ({ frames := 1, cells := 0, slots := 0, locals := 22 })).room s m ([.ref (a 0), .long y] : List Value).toArray below meth c H locs 0 0 Q (F0 m 67 ls []) := by
      intro fx H locs  hP hD hS ls hl
      refine lv_iload hx hb dX11_type_67 (lv_at hl 0 rfl) ?_
      refine lv_if_lt (tgt := 103) hx hb dX11_type_69 (by decide) (fun c_10 => absurd c_10 (by decide)) (fun c_10 => ?_)
      refine lv_lload_n hx hb dX11_type_72 rfl (lv_at hl 2 rfl) ?_
      refine lv_iload hx hb dX11_type_73 (lv_at hl 0 rfl) ?_
      refine va_calli (va_runS (As := [.long y, .int 8]) (rest := []) ⟨hx, hb, hml, hown, hts⟩ (c_X11_byteOf l dC dI g [((a 0), .inr (13, [.ref (a 1), .ref (a 4), .ref (a 5), .ref (a 6), .ref (a 8), .ref (a 9), .ref (a 12), .ref (a 16), .ref (a 22), .ref (a 43), .ref (a 64), .ref (a 69), .int 0])), ((a 64), .inr (7, [.ref (a 65), .ref (a 67), .ref (a 68), .int 0, .int 0, .int 0, .int 0, .int 0, .int 0, .int 0, .int 0, .int 0, .int (-1)])), ((a 65), .inr (12, [.ref (a 66), .int (nI (ct y 6))])), ((a 66), .inl (g 0, 160, .inl fx))] y 8   H.size) (va_cwS 2 hts gX11_type_X11_byteOf rfl rfl rfl (by decide +kernel) ⟨Nat.le_of_ble_eq_true rfl, Nat.le_of_ble_eq_true rfl⟩) ⟨PG_blind, PG_call hK hG hS hP hD (A_all hD hA hS.1)⟩ rfl rfl hl.1 rfl (lv_room (Nat.le_of_ble_eq_true rfl)) dX11_type_75 ⟨Nat.le_of_ble_eq_true rfl, Nat.le_of_ble_eq_true rfl⟩) hS (fun q _ h => (A_all hD hA hS.1) q h) (A_all hD hA hS.1) (fun r_11 u_11 t_11 H_11 L_11 ht_11 hvm_11 hw_11 hB_11 hz_11 hk_11 hS => ?_)
      replace hB_11 := (show va_P (dC, dI) vwCl [((a 0), .inr (13, [.ref (a 1), .ref (a 4), .ref (a 5), .ref (a 6), .ref (a 8), .ref (a 9), .ref (a 12), .ref (a 16), .ref (a 22), .ref (a 43), .ref (a 64), .ref (a 69), .int 0])), ((a 64), .inr (7, [.ref (a 65), .ref (a 67), .ref (a 68), .int 0, .int 0, .int 0, .int 0, .int 0, .int 0, .int 0, .int 0, .int 0, .int (-1)])), ((a 65), .inr (12, [.ref (a 66), .int (nI (ct y 6))])), ((a 66), .inl (g 0, 160, .inl fx))] t_11.heap from hB_11)
      rw [ht_11] at hB_11
      have hP := hB_11
      obtain rfl : r_11 = byt y 8 := hw_11
      refine lv_topi (fun x_12 ex_12 => ?_)
      refine lv_istore (lv' := [(5, .int x_12), (4, .int 8), (0, .ref (a 0)), (1, .long y)]) hx hb dX11_type_78 hl (by decide) rfl (fun ls hl => ?_)
      refine lv_iload hx hb dX11_type_80 (lv_at hl 0 rfl) ?_
      refine lv_if_eq (tgt := 97) hx hb dX11_type_82 (by decide) (fun c_13 => ?_) (fun c_13 => ?_)
      · refine lv_iinc (v := 0) (lv' := [(4, .int 0), (5, .int x_12), (0, .ref (a 0)), (1, .long y)]) hx hb dX11_type_97 hl (k := 1) rfl (by decide) (by decide) rfl (fun ls hl => ?_)
        refine lv_goto (tgt := 67) hx hb dX11_type_100 (by decide) ?_
        have e9 : ct y 7 = ct y 6 := (show ct y 7 = ct y 6 + (if byt y 8 = 0 then 0 else 1) from rfl).trans (by rw [if_pos (by rw [← ex_12]; exact c_13), Nat.add_zero])
        have hP8 : va_P (dC, dI) vwCl [((a 0), .inr (13, [.ref (a 1), .ref (a 4), .ref (a 5), .ref (a 6), .ref (a 8), .ref (a 9), .ref (a 12), .ref (a 16), .ref (a 22), .ref (a 43), .ref (a 64), .ref (a 69), .int 0])), ((a 64), .inr (7, [.ref (a 65), .ref (a 67), .ref (a 68), .int 0, .int 0, .int 0, .int 0, .int 0, .int 0, .int 0, .int 0, .int 0, .int (-1)])), ((a 65), .inr (12, [.ref (a 66), .int (nI (ct y 7))])), ((a 66), .inl (g 0, 160, .inl fx))] H_11 := by rw [e9]; exact hP.sub [0, 1, 2, 3] rfl
        have hD8 : va_D A [((a 0), .inr (13, [.ref (a 1), .ref (a 4), .ref (a 5), .ref (a 6), .ref (a 8), .ref (a 9), .ref (a 12), .ref (a 16), .ref (a 22), .ref (a 43), .ref (a 64), .ref (a 69), .int 0])), ((a 64), .inr (7, [.ref (a 65), .ref (a 67), .ref (a 68), .int 0, .int 0, .int 0, .int 0, .int 0, .int 0, .int 0, .int 0, .int 0, .int (-1)])), ((a 65), .inr (12, [.ref (a 66), .int (nI (ct y 7))])), ((a 66), .inl (g 0, 160, .inl fx))] := by rw [e9]; exact hD.sub [0, 1, 2, 3] (by decide) rfl
        exact HD67_7 fx _ _  hP8 hD8 hS _ (lv_sub hl [0, 2, 3] rfl)
      · refine lv_aload_n hx hb dX11_type_85 rfl (lv_at hl 2 rfl) ?_
        refine va_get (D := (dC, dI)) (ci := 13) (v := .ref (a 64)) (C := RX11) (T := TX11) (N := 13) hx hb hts hiX11 hown hK hP 0 rfl rfl 10 (by decide) hf71 (fun _ h9 => h9) rfl dX11_type_86 ?_
        refine va_getN (D := (dC, dI)) (ci := 7) (v := .ref (a 65)) (C := RX5) (T := TX5) (N := 13) hx hb hts hiX5 hown hK hP 1 rfl rfl 0 (by decide) (nf_52 hG) (fun _ h9 => h9) rfl dX11_type_89 ?_
        refine lv_iload hx hb dX11_type_92 (lv_at hl 0 rfl) ?_
        have hPc := hP.sub (ws' := [((a 65), .inr (12, [.ref (a 66), .int (nI (ct y 6))])), ((a 66), .inl (g 0, 160, .inl fx))]) [2, 3] rfl
        have hDc := hD.sub (ws' := [((a 65), .inr (12, [.ref (a 66), .int (nI (ct y 6))])), ((a 66), .inl (g 0, 160, .inl fx))]) [2, 3] (by decide) rfl
        have hFc := va_free (wc := [((a 65), .inr (12, [.ref (a 66), .int (nI (ct y 6))])), ((a 66), .inl (g 0, 160, .inl fx))]) hD hS hA [2, 3] rfl
        refine va_callv (va_runV (As := [.int x_12]) (rest := []) ⟨hx, hb, hml, hown, hts⟩ (c_X10_add l dC dI g (a 65) (a 66) (ct y 6) fx x_12 (Nat.lt_of_le_of_lt (ct_le y _) (by decide)) H_11.size) (cwV 1 hts gX11_type_X10_add rfl rfl rfl (by decide +kernel) ⟨Nat.le_of_ble_eq_true rfl, Nat.le_of_ble_eq_true rfl⟩) ⟨PG_blind, va_recv hK hP (ci := 12) (q0 := 2) rfl rfl, PG_call hK hG hS hPc hDc hFc⟩ rfl rfl hl.1 rfl (lv_room (Nat.le_of_ble_eq_true rfl)) dX11_type_94 ⟨Nat.le_of_ble_eq_true rfl, Nat.le_of_ble_eq_true rfl⟩) hS (fun q _ h => hFc q h) hFc (fun u_14 t_14 H_14 L_14 ht_14 hvm_14 hw_14 hB_14 hz_14 hk_14 hS => ?_)
        obtain ⟨hP1, hD1⟩ := hB_14
        rw [ht_14] at hP1
        obtain ⟨hP, hD⟩ := va_join (wr := [((a 0), .inr (13, [.ref (a 1), .ref (a 4), .ref (a 5), .ref (a 6), .ref (a 8), .ref (a 9), .ref (a 12), .ref (a 16), .ref (a 22), .ref (a 43), .ref (a 64), .ref (a 69), .int 0])), ((a 64), .inr (7, [.ref (a 65), .ref (a 67), .ref (a 68), .int 0, .int 0, .int 0, .int 0, .int 0, .int 0, .int 0, .int 0, .int 0, .int (-1)]))]) (w1 := [((a 65), .inr (12, [.ref (a 66), .int (nI ((ct y 6) + 1))])), ((a 66), .inl (g 0, 160, .inl (upd fx (nI (ct y 6)).toNatClampNeg x_12)))]) hP hD [2, 3] [0, 1] rfl rfl (by decide) (by decide) hk_14 hFc hP1 hD1
        have hP : va_P (dC, dI) vwCl [((a 0), .inr (13, [.ref (a 1), .ref (a 4), .ref (a 5), .ref (a 6), .ref (a 8), .ref (a 9), .ref (a 12), .ref (a 16), .ref (a 22), .ref (a 43), .ref (a 64), .ref (a 69), .int 0])), ((a 64), .inr (7, [.ref (a 65), .ref (a 67), .ref (a 68), .int 0, .int 0, .int 0, .int 0, .int 0, .int 0, .int 0, .int 0, .int 0, .int (-1)])), ((a 65), .inr (12, [.ref (a 66), .int (nI ((ct y 6) + 1))])), ((a 66), .inl (g 0, 160, .inl (upd fx (nI (ct y 6)).toNatClampNeg x_12)))] H_14 := hP
        have hD : va_D A [((a 0), .inr (13, [.ref (a 1), .ref (a 4), .ref (a 5), .ref (a 6), .ref (a 8), .ref (a 9), .ref (a 12), .ref (a 16), .ref (a 22), .ref (a 43), .ref (a 64), .ref (a 69), .int 0])), ((a 64), .inr (7, [.ref (a 65), .ref (a 67), .ref (a 68), .int 0, .int 0, .int 0, .int 0, .int 0, .int 0, .int 0, .int 0, .int 0, .int (-1)])), ((a 65), .inr (12, [.ref (a 66), .int (nI ((ct y 6) + 1))])), ((a 66), .inl (g 0, 160, .inl (upd fx (nI (ct y 6)).toNatClampNeg x_12)))] := hD
        refine lv_iinc (v := 0) (lv' := [(4, .int 0), (5, .int x_12), (0, .ref (a 0)), (1, .long y)]) hx hb dX11_type_97 hl (k := 1) rfl (by decide) (by decide) rfl (fun ls hl => ?_)
        refine lv_goto (tgt := 67) hx hb dX11_type_100 (by decide) ?_
        have e9 : ct y 7 = ct y 6 + 1 := (show ct y 7 = ct y 6 + (if byt y 8 = 0 then 0 else 1) from rfl).trans (by rw [if_neg (by rw [← ex_12]; exact c_13)])
        have hP8 : va_P (dC, dI) vwCl [((a 0), .inr (13, [.ref (a 1), .ref (a 4), .ref (a 5), .ref (a 6), .ref (a 8), .ref (a 9), .ref (a 12), .ref (a 16), .ref (a 22), .ref (a 43), .ref (a 64), .ref (a 69), .int 0])), ((a 64), .inr (7, [.ref (a 65), .ref (a 67), .ref (a 68), .int 0, .int 0, .int 0, .int 0, .int 0, .int 0, .int 0, .int 0, .int 0, .int (-1)])), ((a 65), .inr (12, [.ref (a 66), .int (nI (ct y 7))])), ((a 66), .inl (g 0, 160, .inl (upd fx (nI (ct y 6)).toNatClampNeg x_12)))] H_14 := by rw [e9]; exact hP.sub [0, 1, 2, 3] rfl
        have hD8 : va_D A [((a 0), .inr (13, [.ref (a 1), .ref (a 4), .ref (a 5), .ref (a 6), .ref (a 8), .ref (a 9), .ref (a 12), .ref (a 16), .ref (a 22), .ref (a 43), .ref (a 64), .ref (a 69), .int 0])), ((a 64), .inr (7, [.ref (a 65), .ref (a 67), .ref (a 68), .int 0, .int 0, .int 0, .int 0, .int 0, .int 0, .int 0, .int 0, .int 0, .int (-1)])), ((a 65), .inr (12, [.ref (a 66), .int (nI (ct y 7))])), ((a 66), .inl (g 0, 160, .inl (upd fx (nI (ct y 6)).toNatClampNeg x_12)))] := by rw [e9]; exact hD.sub [0, 1, 2, 3] (by decide) rfl
        exact HD67_7 (upd fx (nI (ct y 6)).toNatClampNeg x_12) _ _  hP8 hD8 hS _ (lv_sub hl [0, 2, 3] rfl)
    have HD67_5 : ∀ (fx : Nat → Int32) (H : Heap) (locs : List Loc), va_P (dC, dI) vwCl [((a 0), .inr (13, [.ref (a 1), .ref (a 4), .ref (a 5), .ref (a 6), .ref (a 8), .ref (a 9), .ref (a 12), .ref (a 16), .ref (a 22), .ref (a 43), .ref (a 64), .ref (a 69), .int 0])), ((a 64), .inr (7, [.ref (a 65), .ref (a 67), .ref (a 68), .int 0, .int 0, .int 0, .int 0, .int 0, .int 0, .int 0, .int 0, .int 0, .int (-1)])), ((a 65), .inr (12, [.ref (a 66), .int (nI (ct y 5))])), ((a 66), .inl (g 0, 160, .inl fx))] H → va_D A [((a 0), .inr (13, [.ref (a 1), .ref (a 4), .ref (a 5), .ref (a 6), .ref (a 8), .ref (a 9), .ref (a 12), .ref (a 16), .ref (a 22), .ref (a 43), .ref (a 64), .ref (a 69), .int 0])), ((a 64), .inr (7, [.ref (a 65), .ref (a 67), .ref (a 68), .int 0, .int 0, .int 0, .int 0, .int 0, .int 0, .int 0, .int 0, .int 0, .int (-1)])), ((a 65), .inr (12, [.ref (a 66), .int (nI (ct y 5))])), ((a 66), .inl (g 0, 160, .inl fx))] → va_S A s.heap H locs → ∀ (ls : Array Slot), lv_has ls 6 [(4, .int 16), (0, .ref (a 0)), (1, .long y)] → W p l e (headSpec wsX11_type ({ frames := 1, cells := 0, slots := 0, locals := 22 })).room s m ([.ref (a 0), .long y] : List Value).toArray below meth c H locs 0 0 Q (F0 m 67 ls []) := by
      intro fx H locs  hP hD hS ls hl
      refine lv_iload hx hb dX11_type_67 (lv_at hl 0 rfl) ?_
      refine lv_if_lt (tgt := 103) hx hb dX11_type_69 (by decide) (fun c_15 => absurd c_15 (by decide)) (fun c_15 => ?_)
      refine lv_lload_n hx hb dX11_type_72 rfl (lv_at hl 2 rfl) ?_
      refine lv_iload hx hb dX11_type_73 (lv_at hl 0 rfl) ?_
      refine va_calli (va_runS (As := [.long y, .int 16]) (rest := []) ⟨hx, hb, hml, hown, hts⟩ (c_X11_byteOf l dC dI g [((a 0), .inr (13, [.ref (a 1), .ref (a 4), .ref (a 5), .ref (a 6), .ref (a 8), .ref (a 9), .ref (a 12), .ref (a 16), .ref (a 22), .ref (a 43), .ref (a 64), .ref (a 69), .int 0])), ((a 64), .inr (7, [.ref (a 65), .ref (a 67), .ref (a 68), .int 0, .int 0, .int 0, .int 0, .int 0, .int 0, .int 0, .int 0, .int 0, .int (-1)])), ((a 65), .inr (12, [.ref (a 66), .int (nI (ct y 5))])), ((a 66), .inl (g 0, 160, .inl fx))] y 16   H.size) (va_cwS 2 hts gX11_type_X11_byteOf rfl rfl rfl (by decide +kernel) ⟨Nat.le_of_ble_eq_true rfl, Nat.le_of_ble_eq_true rfl⟩) ⟨PG_blind, PG_call hK hG hS hP hD (A_all hD hA hS.1)⟩ rfl rfl hl.1 rfl (lv_room (Nat.le_of_ble_eq_true rfl)) dX11_type_75 ⟨Nat.le_of_ble_eq_true rfl, Nat.le_of_ble_eq_true rfl⟩) hS (fun q _ h => (A_all hD hA hS.1) q h) (A_all hD hA hS.1) (fun r_16 u_16 t_16 H_16 L_16 ht_16 hvm_16 hw_16 hB_16 hz_16 hk_16 hS => ?_)
      replace hB_16 := (show va_P (dC, dI) vwCl [((a 0), .inr (13, [.ref (a 1), .ref (a 4), .ref (a 5), .ref (a 6), .ref (a 8), .ref (a 9), .ref (a 12), .ref (a 16), .ref (a 22), .ref (a 43), .ref (a 64), .ref (a 69), .int 0])), ((a 64), .inr (7, [.ref (a 65), .ref (a 67), .ref (a 68), .int 0, .int 0, .int 0, .int 0, .int 0, .int 0, .int 0, .int 0, .int 0, .int (-1)])), ((a 65), .inr (12, [.ref (a 66), .int (nI (ct y 5))])), ((a 66), .inl (g 0, 160, .inl fx))] t_16.heap from hB_16)
      rw [ht_16] at hB_16
      have hP := hB_16
      obtain rfl : r_16 = byt y 16 := hw_16
      refine lv_topi (fun x_17 ex_17 => ?_)
      refine lv_istore (lv' := [(5, .int x_17), (4, .int 16), (0, .ref (a 0)), (1, .long y)]) hx hb dX11_type_78 hl (by decide) rfl (fun ls hl => ?_)
      refine lv_iload hx hb dX11_type_80 (lv_at hl 0 rfl) ?_
      refine lv_if_eq (tgt := 97) hx hb dX11_type_82 (by decide) (fun c_18 => ?_) (fun c_18 => ?_)
      · refine lv_iinc (v := 8) (lv' := [(4, .int 8), (5, .int x_17), (0, .ref (a 0)), (1, .long y)]) hx hb dX11_type_97 hl (k := 1) rfl (by decide) (by decide) rfl (fun ls hl => ?_)
        refine lv_goto (tgt := 67) hx hb dX11_type_100 (by decide) ?_
        have e9 : ct y 6 = ct y 5 := (show ct y 6 = ct y 5 + (if byt y 16 = 0 then 0 else 1) from rfl).trans (by rw [if_pos (by rw [← ex_17]; exact c_18), Nat.add_zero])
        have hP8 : va_P (dC, dI) vwCl [((a 0), .inr (13, [.ref (a 1), .ref (a 4), .ref (a 5), .ref (a 6), .ref (a 8), .ref (a 9), .ref (a 12), .ref (a 16), .ref (a 22), .ref (a 43), .ref (a 64), .ref (a 69), .int 0])), ((a 64), .inr (7, [.ref (a 65), .ref (a 67), .ref (a 68), .int 0, .int 0, .int 0, .int 0, .int 0, .int 0, .int 0, .int 0, .int 0, .int (-1)])), ((a 65), .inr (12, [.ref (a 66), .int (nI (ct y 6))])), ((a 66), .inl (g 0, 160, .inl fx))] H_16 := by rw [e9]; exact hP.sub [0, 1, 2, 3] rfl
        have hD8 : va_D A [((a 0), .inr (13, [.ref (a 1), .ref (a 4), .ref (a 5), .ref (a 6), .ref (a 8), .ref (a 9), .ref (a 12), .ref (a 16), .ref (a 22), .ref (a 43), .ref (a 64), .ref (a 69), .int 0])), ((a 64), .inr (7, [.ref (a 65), .ref (a 67), .ref (a 68), .int 0, .int 0, .int 0, .int 0, .int 0, .int 0, .int 0, .int 0, .int 0, .int (-1)])), ((a 65), .inr (12, [.ref (a 66), .int (nI (ct y 6))])), ((a 66), .inl (g 0, 160, .inl fx))] := by rw [e9]; exact hD.sub [0, 1, 2, 3] (by decide) rfl
        exact HD67_6 fx _ _  hP8 hD8 hS _ (lv_sub hl [0, 2, 3] rfl)
      · refine lv_aload_n hx hb dX11_type_85 rfl (lv_at hl 2 rfl) ?_
        refine va_get (D := (dC, dI)) (ci := 13) (v := .ref (a 64)) (C := RX11) (T := TX11) (N := 13) hx hb hts hiX11 hown hK hP 0 rfl rfl 10 (by decide) hf71 (fun _ h9 => h9) rfl dX11_type_86 ?_
        refine va_getN (D := (dC, dI)) (ci := 7) (v := .ref (a 65)) (C := RX5) (T := TX5) (N := 13) hx hb hts hiX5 hown hK hP 1 rfl rfl 0 (by decide) (nf_52 hG) (fun _ h9 => h9) rfl dX11_type_89 ?_
        refine lv_iload hx hb dX11_type_92 (lv_at hl 0 rfl) ?_
        have hPc := hP.sub (ws' := [((a 65), .inr (12, [.ref (a 66), .int (nI (ct y 5))])), ((a 66), .inl (g 0, 160, .inl fx))]) [2, 3] rfl
        have hDc := hD.sub (ws' := [((a 65), .inr (12, [.ref (a 66), .int (nI (ct y 5))])), ((a 66), .inl (g 0, 160, .inl fx))]) [2, 3] (by decide) rfl
        have hFc := va_free (wc := [((a 65), .inr (12, [.ref (a 66), .int (nI (ct y 5))])), ((a 66), .inl (g 0, 160, .inl fx))]) hD hS hA [2, 3] rfl
        refine va_callv (va_runV (As := [.int x_17]) (rest := []) ⟨hx, hb, hml, hown, hts⟩ (c_X10_add l dC dI g (a 65) (a 66) (ct y 5) fx x_17 (Nat.lt_of_le_of_lt (ct_le y _) (by decide)) H_16.size) (cwV 1 hts gX11_type_X10_add rfl rfl rfl (by decide +kernel) ⟨Nat.le_of_ble_eq_true rfl, Nat.le_of_ble_eq_true rfl⟩) ⟨PG_blind, va_recv hK hP (ci := 12) (q0 := 2) rfl rfl, PG_call hK hG hS hPc hDc hFc⟩ rfl rfl hl.1 rfl (lv_room (Nat.le_of_ble_eq_true rfl)) dX11_type_94 ⟨Nat.le_of_ble_eq_true rfl, Nat.le_of_ble_eq_true rfl⟩) hS (fun q _ h => hFc q h) hFc (fun u_19 t_19 H_19 L_19 ht_19 hvm_19 hw_19 hB_19 hz_19 hk_19 hS => ?_)
        obtain ⟨hP1, hD1⟩ := hB_19
        rw [ht_19] at hP1
        obtain ⟨hP, hD⟩ := va_join (wr := [((a 0), .inr (13, [.ref (a 1), .ref (a 4), .ref (a 5), .ref (a 6), .ref (a 8), .ref (a 9), .ref (a 12), .ref (a 16), .ref (a 22), .ref (a 43), .ref (a 64), .ref (a 69), .int 0])), ((a 64), .inr (7, [.ref (a 65), .ref (a 67), .ref (a 68), .int 0, .int 0, .int 0, .int 0, .int 0, .int 0, .int 0, .int 0, .int 0, .int (-1)]))]) (w1 := [((a 65), .inr (12, [.ref (a 66), .int (nI ((ct y 5) + 1))])), ((a 66), .inl (g 0, 160, .inl (upd fx (nI (ct y 5)).toNatClampNeg x_17)))]) hP hD [2, 3] [0, 1] rfl rfl (by decide) (by decide) hk_19 hFc hP1 hD1
        have hP : va_P (dC, dI) vwCl [((a 0), .inr (13, [.ref (a 1), .ref (a 4), .ref (a 5), .ref (a 6), .ref (a 8), .ref (a 9), .ref (a 12), .ref (a 16), .ref (a 22), .ref (a 43), .ref (a 64), .ref (a 69), .int 0])), ((a 64), .inr (7, [.ref (a 65), .ref (a 67), .ref (a 68), .int 0, .int 0, .int 0, .int 0, .int 0, .int 0, .int 0, .int 0, .int 0, .int (-1)])), ((a 65), .inr (12, [.ref (a 66), .int (nI ((ct y 5) + 1))])), ((a 66), .inl (g 0, 160, .inl (upd fx (nI (ct y 5)).toNatClampNeg x_17)))] H_19 := hP
        have hD : va_D A [((a 0), .inr (13, [.ref (a 1), .ref (a 4), .ref (a 5), .ref (a 6), .ref (a 8), .ref (a 9), .ref (a 12), .ref (a 16), .ref (a 22), .ref (a 43), .ref (a 64), .ref (a 69), .int 0])), ((a 64), .inr (7, [.ref (a 65), .ref (a 67), .ref (a 68), .int 0, .int 0, .int 0, .int 0, .int 0, .int 0, .int 0, .int 0, .int 0, .int (-1)])), ((a 65), .inr (12, [.ref (a 66), .int (nI ((ct y 5) + 1))])), ((a 66), .inl (g 0, 160, .inl (upd fx (nI (ct y 5)).toNatClampNeg x_17)))] := hD
        refine lv_iinc (v := 8) (lv' := [(4, .int 8), (5, .int x_17), (0, .ref (a 0)), (1, .long y)]) hx hb dX11_type_97 hl (k := 1) rfl (by decide) (by decide) rfl (fun ls hl => ?_)
        refine lv_goto (tgt := 67) hx hb dX11_type_100 (by decide) ?_
        have e9 : ct y 6 = ct y 5 + 1 := (show ct y 6 = ct y 5 + (if byt y 16 = 0 then 0 else 1) from rfl).trans (by rw [if_neg (by rw [← ex_17]; exact c_18)])
        have hP8 : va_P (dC, dI) vwCl [((a 0), .inr (13, [.ref (a 1), .ref (a 4), .ref (a 5), .ref (a 6), .ref (a 8), .ref (a 9), .ref (a 12), .ref (a 16), .ref (a 22), .ref (a 43), .ref (a 64), .ref (a 69), .int 0])), ((a 64), .inr (7, [.ref (a 65), .ref (a 67), .ref (a 68), .int 0, .int 0, .int 0, .int 0, .int 0, .int 0, .int 0, .int 0, .int 0, .int (-1)])), ((a 65), .inr (12, [.ref (a 66), .int (nI (ct y 6))])), ((a 66), .inl (g 0, 160, .inl (upd fx (nI (ct y 5)).toNatClampNeg x_17)))] H_19 := by rw [e9]; exact hP.sub [0, 1, 2, 3] rfl
        have hD8 : va_D A [((a 0), .inr (13, [.ref (a 1), .ref (a 4), .ref (a 5), .ref (a 6), .ref (a 8), .ref (a 9), .ref (a 12), .ref (a 16), .ref (a 22), .ref (a 43), .ref (a 64), .ref (a 69), .int 0])), ((a 64), .inr (7, [.ref (a 65), .ref (a 67), .ref (a 68), .int 0, .int 0, .int 0, .int 0, .int 0, .int 0, .int 0, .int 0, .int 0, .int (-1)])), ((a 65), .inr (12, [.ref (a 66), .int (nI (ct y 6))])), ((a 66), .inl (g 0, 160, .inl (upd fx (nI (ct y 5)).toNatClampNeg x_17)))] := by rw [e9]; exact hD.sub [0, 1, 2, 3] (by decide) rfl
        exact HD67_6 (upd fx (nI (ct y 5)).toNatClampNeg x_17) _ _  hP8 hD8 hS _ (lv_sub hl [0, 2, 3] rfl)
    have HD67_4 : ∀ (fx : Nat → Int32) (H : Heap) (locs : List Loc), va_P (dC, dI) vwCl [((a 0), .inr (13, [.ref (a 1), .ref (a 4), .ref (a 5), .ref (a 6), .ref (a 8), .ref (a 9), .ref (a 12), .ref (a 16), .ref (a 22), .ref (a 43), .ref (a 64), .ref (a 69), .int 0])), ((a 64), .inr (7, [.ref (a 65), .ref (a 67), .ref (a 68), .int 0, .int 0, .int 0, .int 0, .int 0, .int 0, .int 0, .int 0, .int 0, .int (-1)])), ((a 65), .inr (12, [.ref (a 66), .int (nI (ct y 4))])), ((a 66), .inl (g 0, 160, .inl fx))] H → va_D A [((a 0), .inr (13, [.ref (a 1), .ref (a 4), .ref (a 5), .ref (a 6), .ref (a 8), .ref (a 9), .ref (a 12), .ref (a 16), .ref (a 22), .ref (a 43), .ref (a 64), .ref (a 69), .int 0])), ((a 64), .inr (7, [.ref (a 65), .ref (a 67), .ref (a 68), .int 0, .int 0, .int 0, .int 0, .int 0, .int 0, .int 0, .int 0, .int 0, .int (-1)])), ((a 65), .inr (12, [.ref (a 66), .int (nI (ct y 4))])), ((a 66), .inl (g 0, 160, .inl fx))] → va_S A s.heap H locs → ∀ (ls : Array Slot), lv_has ls 6 [(4, .int 24), (0, .ref (a 0)), (1, .long y)] → W p l e (headSpec wsX11_type ({ frames := 1, cells := 0, slots := 0, locals := 22 })).room s m ([.ref (a 0), .long y] : List Value).toArray below meth c H locs 0 0 Q (F0 m 67 ls []) := by
      intro fx H locs  hP hD hS ls hl
      refine lv_iload hx hb dX11_type_67 (lv_at hl 0 rfl) ?_
      refine lv_if_lt (tgt := 103) hx hb dX11_type_69 (by decide) (fun c_20 => absurd c_20 (by decide)) (fun c_20 => ?_)
      refine lv_lload_n hx hb dX11_type_72 rfl (lv_at hl 2 rfl) ?_
      refine lv_iload hx hb dX11_type_73 (lv_at hl 0 rfl) ?_
      refine va_calli (va_runS (As := [.long y, .int 24]) (rest := []) ⟨hx, hb, hml, hown, hts⟩ (c_X11_byteOf l dC dI g [((a 0), .inr (13, [.ref (a 1), .ref (a 4), .ref (a 5), .ref (a 6), .ref (a 8), .ref (a 9), .ref (a 12), .ref (a 16), .ref (a 22), .ref (a 43), .ref (a 64), .ref (a 69), .int 0])), ((a 64), .inr (7, [.ref (a 65), .ref (a 67), .ref (a 68), .int 0, .int 0, .int 0, .int 0, .int 0, .int 0, .int 0, .int 0, .int 0, .int (-1)])), ((a 65), .inr (12, [.ref (a 66), .int (nI (ct y 4))])), ((a 66), .inl (g 0, 160, .inl fx))] y 24   H.size) (va_cwS 2 hts gX11_type_X11_byteOf rfl rfl rfl (by decide +kernel) ⟨Nat.le_of_ble_eq_true rfl, Nat.le_of_ble_eq_true rfl⟩) ⟨PG_blind, PG_call hK hG hS hP hD (A_all hD hA hS.1)⟩ rfl rfl hl.1 rfl (lv_room (Nat.le_of_ble_eq_true rfl)) dX11_type_75 ⟨Nat.le_of_ble_eq_true rfl, Nat.le_of_ble_eq_true rfl⟩) hS (fun q _ h => (A_all hD hA hS.1) q h) (A_all hD hA hS.1) (fun r_21 u_21 t_21 H_21 L_21 ht_21 hvm_21 hw_21 hB_21 hz_21 hk_21 hS => ?_)
      replace hB_21 := (show va_P (dC, dI) vwCl [((a 0), .inr (13, [.ref (a 1), .ref (a 4), .ref (a 5), .ref (a 6), .ref (a 8), .ref (a 9), .ref (a 12), .ref (a 16), .ref (a 22), .ref (a 43), .ref (a 64), .ref (a 69), .int 0])), ((a 64), .inr (7, [.ref (a 65), .ref (a 67), .ref (a 68), .int 0, .int 0, .int 0, .int 0, .int 0, .int 0, .int 0, .int 0, .int 0, .int (-1)])), ((a 65), .inr (12, [.ref (a 66), .int (nI (ct y 4))])), ((a 66), .inl (g 0, 160, .inl fx))] t_21.heap from hB_21)
      rw [ht_21] at hB_21
      have hP := hB_21
      obtain rfl : r_21 = byt y 24 := hw_21
      refine lv_topi (fun x_22 ex_22 => ?_)
      refine lv_istore (lv' := [(5, .int x_22), (4, .int 24), (0, .ref (a 0)), (1, .long y)]) hx hb dX11_type_78 hl (by decide) rfl (fun ls hl => ?_)
      refine lv_iload hx hb dX11_type_80 (lv_at hl 0 rfl) ?_
      refine lv_if_eq (tgt := 97) hx hb dX11_type_82 (by decide) (fun c_23 => ?_) (fun c_23 => ?_)
      · refine lv_iinc (v := 16) (lv' := [(4, .int 16), (5, .int x_22), (0, .ref (a 0)), (1, .long y)]) hx hb dX11_type_97 hl (k := 1) rfl (by decide) (by decide) rfl (fun ls hl => ?_)
        refine lv_goto (tgt := 67) hx hb dX11_type_100 (by decide) ?_
        have e9 : ct y 5 = ct y 4 := (show ct y 5 = ct y 4 + (if byt y 24 = 0 then 0 else 1) from rfl).trans (by rw [if_pos (by rw [← ex_22]; exact c_23), Nat.add_zero])
        have hP8 : va_P (dC, dI) vwCl [((a 0), .inr (13, [.ref (a 1), .ref (a 4), .ref (a 5), .ref (a 6), .ref (a 8), .ref (a 9), .ref (a 12), .ref (a 16), .ref (a 22), .ref (a 43), .ref (a 64), .ref (a 69), .int 0])), ((a 64), .inr (7, [.ref (a 65), .ref (a 67), .ref (a 68), .int 0, .int 0, .int 0, .int 0, .int 0, .int 0, .int 0, .int 0, .int 0, .int (-1)])), ((a 65), .inr (12, [.ref (a 66), .int (nI (ct y 5))])), ((a 66), .inl (g 0, 160, .inl fx))] H_21 := by rw [e9]; exact hP.sub [0, 1, 2, 3] rfl
        have hD8 : va_D A [((a 0), .inr (13, [.ref (a 1), .ref (a 4), .ref (a 5), .ref (a 6), .ref (a 8), .ref (a 9), .ref (a 12), .ref (a 16), .ref (a 22), .ref (a 43), .ref (a 64), .ref (a 69), .int 0])), ((a 64), .inr (7, [.ref (a 65), .ref (a 67), .ref (a 68), .int 0, .int 0, .int 0, .int 0, .int 0, .int 0, .int 0, .int 0, .int 0, .int (-1)])), ((a 65), .inr (12, [.ref (a 66), .int (nI (ct y 5))])), ((a 66), .inl (g 0, 160, .inl fx))] := by rw [e9]; exact hD.sub [0, 1, 2, 3] (by decide) rfl
        exact HD67_5 fx _ _  hP8 hD8 hS _ (lv_sub hl [0, 2, 3] rfl)
      · refine lv_aload_n hx hb dX11_type_85 rfl (lv_at hl 2 rfl) ?_
        refine va_get (D := (dC, dI)) (ci := 13) (v := .ref (a 64)) (C := RX11) (T := TX11) (N := 13) hx hb hts hiX11 hown hK hP 0 rfl rfl 10 (by decide) hf71 (fun _ h9 => h9) rfl dX11_type_86 ?_
        refine va_getN (D := (dC, dI)) (ci := 7) (v := .ref (a 65)) (C := RX5) (T := TX5) (N := 13) hx hb hts hiX5 hown hK hP 1 rfl rfl 0 (by decide) (nf_52 hG) (fun _ h9 => h9) rfl dX11_type_89 ?_
        refine lv_iload hx hb dX11_type_92 (lv_at hl 0 rfl) ?_
        have hPc := hP.sub (ws' := [((a 65), .inr (12, [.ref (a 66), .int (nI (ct y 4))])), ((a 66), .inl (g 0, 160, .inl fx))]) [2, 3] rfl
        have hDc := hD.sub (ws' := [((a 65), .inr (12, [.ref (a 66), .int (nI (ct y 4))])), ((a 66), .inl (g 0, 160, .inl fx))]) [2, 3] (by decide) rfl
        have hFc := va_free (wc := [((a 65), .inr (12, [.ref (a 66), .int (nI (ct y 4))])), ((a 66), .inl (g 0, 160, .inl fx))]) hD hS hA [2, 3] rfl
        refine va_callv (va_runV (As := [.int x_22]) (rest := []) ⟨hx, hb, hml, hown, hts⟩ (c_X10_add l dC dI g (a 65) (a 66) (ct y 4) fx x_22 (Nat.lt_of_le_of_lt (ct_le y _) (by decide)) H_21.size) (cwV 1 hts gX11_type_X10_add rfl rfl rfl (by decide +kernel) ⟨Nat.le_of_ble_eq_true rfl, Nat.le_of_ble_eq_true rfl⟩) ⟨PG_blind, va_recv hK hP (ci := 12) (q0 := 2) rfl rfl, PG_call hK hG hS hPc hDc hFc⟩ rfl rfl hl.1 rfl (lv_room (Nat.le_of_ble_eq_true rfl)) dX11_type_94 ⟨Nat.le_of_ble_eq_true rfl, Nat.le_of_ble_eq_true rfl⟩) hS (fun q _ h => hFc q h) hFc (fun u_24 t_24 H_24 L_24 ht_24 hvm_24 hw_24 hB_24 hz_24 hk_24 hS => ?_)
        obtain ⟨hP1, hD1⟩ := hB_24
        rw [ht_24] at hP1
        obtain ⟨hP, hD⟩ := va_join (wr := [((a 0), .inr (13, [.ref (a 1), .ref (a 4), .ref (a 5), .ref (a 6), .ref (a 8), .ref (a 9), .ref (a 12), .ref (a 16), .ref (a 22), .ref (a 43), .ref (a 64), .ref (a 69), .int 0])), ((a 64), .inr (7, [.ref (a 65), .ref (a 67), .ref (a 68), .int 0, .int 0, .int 0, .int 0, .int 0, .int 0, .int 0, .int 0, .int 0, .int (-1)]))]) (w1 := [((a 65), .inr (12, [.ref (a 66), .int (nI ((ct y 4) + 1))])), ((a 66), .inl (g 0, 160, .inl (upd fx (nI (ct y 4)).toNatClampNeg x_22)))]) hP hD [2, 3] [0, 1] rfl rfl (by decide) (by decide) hk_24 hFc hP1 hD1
        have hP : va_P (dC, dI) vwCl [((a 0), .inr (13, [.ref (a 1), .ref (a 4), .ref (a 5), .ref (a 6), .ref (a 8), .ref (a 9), .ref (a 12), .ref (a 16), .ref (a 22), .ref (a 43), .ref (a 64), .ref (a 69), .int 0])), ((a 64), .inr (7, [.ref (a 65), .ref (a 67), .ref (a 68), .int 0, .int 0, .int 0, .int 0, .int 0, .int 0, .int 0, .int 0, .int 0, .int (-1)])), ((a 65), .inr (12, [.ref (a 66), .int (nI ((ct y 4) + 1))])), ((a 66), .inl (g 0, 160, .inl (upd fx (nI (ct y 4)).toNatClampNeg x_22)))] H_24 := hP
        have hD : va_D A [((a 0), .inr (13, [.ref (a 1), .ref (a 4), .ref (a 5), .ref (a 6), .ref (a 8), .ref (a 9), .ref (a 12), .ref (a 16), .ref (a 22), .ref (a 43), .ref (a 64), .ref (a 69), .int 0])), ((a 64), .inr (7, [.ref (a 65), .ref (a 67), .ref (a 68), .int 0, .int 0, .int 0, .int 0, .int 0, .int 0, .int 0, .int 0, .int 0, .int (-1)])), ((a 65), .inr (12, [.ref (a 66), .int (nI ((ct y 4) + 1))])), ((a 66), .inl (g 0, 160, .inl (upd fx (nI (ct y 4)).toNatClampNeg x_22)))] := hD
        refine lv_iinc (v := 16) (lv' := [(4, .int 16), (5, .int x_22), (0, .ref (a 0)), (1, .long y)]) hx hb dX11_type_97 hl (k := 1) rfl (by decide) (by decide) rfl (fun ls hl => ?_)
        refine lv_goto (tgt := 67) hx hb dX11_type_100 (by decide) ?_
        have e9 : ct y 5 = ct y 4 + 1 := (show ct y 5 = ct y 4 + (if byt y 24 = 0 then 0 else 1) from rfl).trans (by rw [if_neg (by rw [← ex_22]; exact c_23)])
        have hP8 : va_P (dC, dI) vwCl [((a 0), .inr (13, [.ref (a 1), .ref (a 4), .ref (a 5), .ref (a 6), .ref (a 8), .ref (a 9), .ref (a 12), .ref (a 16), .ref (a 22), .ref (a 43), .ref (a 64), .ref (a 69), .int 0])), ((a 64), .inr (7, [.ref (a 65), .ref (a 67), .ref (a 68), .int 0, .int 0, .int 0, .int 0, .int 0, .int 0, .int 0, .int 0, .int 0, .int (-1)])), ((a 65), .inr (12, [.ref (a 66), .int (nI (ct y 5))])), ((a 66), .inl (g 0, 160, .inl (upd fx (nI (ct y 4)).toNatClampNeg x_22)))] H_24 := by rw [e9]; exact hP.sub [0, 1, 2, 3] rfl
        have hD8 : va_D A [((a 0), .inr (13, [.ref (a 1), .ref (a 4), .ref (a 5), .ref (a 6), .ref (a 8), .ref (a 9), .ref (a 12), .ref (a 16), .ref (a 22), .ref (a 43), .ref (a 64), .ref (a 69), .int 0])), ((a 64), .inr (7, [.ref (a 65), .ref (a 67), .ref (a 68), .int 0, .int 0, .int 0, .int 0, .int 0, .int 0, .int 0, .int 0, .int 0, .int (-1)])), ((a 65), .inr (12, [.ref (a 66), .int (nI (ct y 5))])), ((a 66), .inl (g 0, 160, .inl (upd fx (nI (ct y 4)).toNatClampNeg x_22)))] := by rw [e9]; exact hD.sub [0, 1, 2, 3] (by decide) rfl
        exact HD67_5 (upd fx (nI (ct y 4)).toNatClampNeg x_22) _ _  hP8 hD8 hS _ (lv_sub hl [0, 2, 3] rfl)
    have HD67_3 : ∀ (fx : Nat → Int32) (H : Heap) (locs : List Loc), va_P (dC, dI) vwCl [((a 0), .inr (13, [.ref (a 1), .ref (a 4), .ref (a 5), .ref (a 6), .ref (a 8), .ref (a 9), .ref (a 12), .ref (a 16), .ref (a 22), .ref (a 43), .ref (a 64), .ref (a 69), .int 0])), ((a 64), .inr (7, [.ref (a 65), .ref (a 67), .ref (a 68), .int 0, .int 0, .int 0, .int 0, .int 0, .int 0, .int 0, .int 0, .int 0, .int (-1)])), ((a 65), .inr (12, [.ref (a 66), .int (nI (ct y 3))])), ((a 66), .inl (g 0, 160, .inl fx))] H → va_D A [((a 0), .inr (13, [.ref (a 1), .ref (a 4), .ref (a 5), .ref (a 6), .ref (a 8), .ref (a 9), .ref (a 12), .ref (a 16), .ref (a 22), .ref (a 43), .ref (a 64), .ref (a 69), .int 0])), ((a 64), .inr (7, [.ref (a 65), .ref (a 67), .ref (a 68), .int 0, .int 0, .int 0, .int 0, .int 0, .int 0, .int 0, .int 0, .int 0, .int (-1)])), ((a 65), .inr (12, [.ref (a 66), .int (nI (ct y 3))])), ((a 66), .inl (g 0, 160, .inl fx))] → va_S A s.heap H locs → ∀ (ls : Array Slot), lv_has ls 6 [(4, .int 32), (0, .ref (a 0)), (1, .long y)] → W p l e (headSpec wsX11_type ({ frames := 1, cells := 0, slots := 0, locals := 22 })).room s m ([.ref (a 0), .long y] : List Value).toArray below meth c H locs 0 0 Q (F0 m 67 ls []) := by
      intro fx H locs  hP hD hS ls hl
      refine lv_iload hx hb dX11_type_67 (lv_at hl 0 rfl) ?_
      refine lv_if_lt (tgt := 103) hx hb dX11_type_69 (by decide) (fun c_25 => absurd c_25 (by decide)) (fun c_25 => ?_)
      refine lv_lload_n hx hb dX11_type_72 rfl (lv_at hl 2 rfl) ?_
      refine lv_iload hx hb dX11_type_73 (lv_at hl 0 rfl) ?_
      refine va_calli (va_runS (As := [.long y, .int 32]) (rest := []) ⟨hx, hb, hml, hown, hts⟩ (c_X11_byteOf l dC dI g [((a 0), .inr (13, [.ref (a 1), .ref (a 4), .ref (a 5), .ref (a 6), .ref (a 8), .ref (a 9), .ref (a 12), .ref (a 16), .ref (a 22), .ref (a 43), .ref (a 64), .ref (a 69), .int 0])), ((a 64), .inr (7, [.ref (a 65), .ref (a 67), .ref (a 68), .int 0, .int 0, .int 0, .int 0, .int 0, .int 0, .int 0, .int 0, .int 0, .int (-1)])), ((a 65), .inr (12, [.ref (a 66), .int (nI (ct y 3))])), ((a 66), .inl (g 0, 160, .inl fx))] y 32   H.size) (va_cwS 2 hts gX11_type_X11_byteOf rfl rfl rfl (by decide +kernel) ⟨Nat.le_of_ble_eq_true rfl, Nat.le_of_ble_eq_true rfl⟩) ⟨PG_blind, PG_call hK hG hS hP hD (A_all hD hA hS.1)⟩ rfl rfl hl.1 rfl (lv_room (Nat.le_of_ble_eq_true rfl)) dX11_type_75 ⟨Nat.le_of_ble_eq_true rfl, Nat.le_of_ble_eq_true rfl⟩) hS (fun q _ h => (A_all hD hA hS.1) q h) (A_all hD hA hS.1) (fun r_26 u_26 t_26 H_26 L_26 ht_26 hvm_26 hw_26 hB_26 hz_26 hk_26 hS => ?_)
      replace hB_26 := (show va_P (dC, dI) vwCl [((a 0), .inr (13, [.ref (a 1), .ref (a 4), .ref (a 5), .ref (a 6), .ref (a 8), .ref (a 9), .ref (a 12), .ref (a 16), .ref (a 22), .ref (a 43), .ref (a 64), .ref (a 69), .int 0])), ((a 64), .inr (7, [.ref (a 65), .ref (a 67), .ref (a 68), .int 0, .int 0, .int 0, .int 0, .int 0, .int 0, .int 0, .int 0, .int 0, .int (-1)])), ((a 65), .inr (12, [.ref (a 66), .int (nI (ct y 3))])), ((a 66), .inl (g 0, 160, .inl fx))] t_26.heap from hB_26)
      rw [ht_26] at hB_26
      have hP := hB_26
      obtain rfl : r_26 = byt y 32 := hw_26
      refine lv_topi (fun x_27 ex_27 => ?_)
      refine lv_istore (lv' := [(5, .int x_27), (4, .int 32), (0, .ref (a 0)), (1, .long y)]) hx hb dX11_type_78 hl (by decide) rfl (fun ls hl => ?_)
      refine lv_iload hx hb dX11_type_80 (lv_at hl 0 rfl) ?_
      refine lv_if_eq (tgt := 97) hx hb dX11_type_82 (by decide) (fun c_28 => ?_) (fun c_28 => ?_)
      · refine lv_iinc (v := 24) (lv' := [(4, .int 24), (5, .int x_27), (0, .ref (a 0)), (1, .long y)]) hx hb dX11_type_97 hl (k := 1) rfl (by decide) (by decide) rfl (fun ls hl => ?_)
        refine lv_goto (tgt := 67) hx hb dX11_type_100 (by decide) ?_
        have e9 : ct y 4 = ct y 3 := (show ct y 4 = ct y 3 + (if byt y 32 = 0 then 0 else 1) from rfl).trans (by rw [if_pos (by rw [← ex_27]; exact c_28), Nat.add_zero])
        have hP8 : va_P (dC, dI) vwCl [((a 0), .inr (13, [.ref (a 1), .ref (a 4), .ref (a 5), .ref (a 6), .ref (a 8), .ref (a 9), .ref (a 12), .ref (a 16), .ref (a 22), .ref (a 43), .ref (a 64), .ref (a 69), .int 0])), ((a 64), .inr (7, [.ref (a 65), .ref (a 67), .ref (a 68), .int 0, .int 0, .int 0, .int 0, .int 0, .int 0, .int 0, .int 0, .int 0, .int (-1)])), ((a 65), .inr (12, [.ref (a 66), .int (nI (ct y 4))])), ((a 66), .inl (g 0, 160, .inl fx))] H_26 := by rw [e9]; exact hP.sub [0, 1, 2, 3] rfl
        have hD8 : va_D A [((a 0), .inr (13, [.ref (a 1), .ref (a 4), .ref (a 5), .ref (a 6), .ref (a 8), .ref (a 9), .ref (a 12), .ref (a 16), .ref (a 22), .ref (a 43), .ref (a 64), .ref (a 69), .int 0])), ((a 64), .inr (7, [.ref (a 65), .ref (a 67), .ref (a 68), .int 0, .int 0, .int 0, .int 0, .int 0, .int 0, .int 0, .int 0, .int 0, .int (-1)])), ((a 65), .inr (12, [.ref (a 66), .int (nI (ct y 4))])), ((a 66), .inl (g 0, 160, .inl fx))] := by rw [e9]; exact hD.sub [0, 1, 2, 3] (by decide) rfl
        exact HD67_4 fx _ _  hP8 hD8 hS _ (lv_sub hl [0, 2, 3] rfl)
      · refine lv_aload_n hx hb dX11_type_85 rfl (lv_at hl 2 rfl) ?_
        refine va_get (D := (dC, dI)) (ci := 13) (v := .ref (a 64)) (C := RX11) (T := TX11) (N := 13) hx hb hts hiX11 hown hK hP 0 rfl rfl 10 (by decide) hf71 (fun _ h9 => h9) rfl dX11_type_86 ?_
        refine va_getN (D := (dC, dI)) (ci := 7) (v := .ref (a 65)) (C := RX5) (T := TX5) (N := 13) hx hb hts hiX5 hown hK hP 1 rfl rfl 0 (by decide) (nf_52 hG) (fun _ h9 => h9) rfl dX11_type_89 ?_
        refine lv_iload hx hb dX11_type_92 (lv_at hl 0 rfl) ?_
        have hPc := hP.sub (ws' := [((a 65), .inr (12, [.ref (a 66), .int (nI (ct y 3))])), ((a 66), .inl (g 0, 160, .inl fx))]) [2, 3] rfl
        have hDc := hD.sub (ws' := [((a 65), .inr (12, [.ref (a 66), .int (nI (ct y 3))])), ((a 66), .inl (g 0, 160, .inl fx))]) [2, 3] (by decide) rfl
        have hFc := va_free (wc := [((a 65), .inr (12, [.ref (a 66), .int (nI (ct y 3))])), ((a 66), .inl (g 0, 160, .inl fx))]) hD hS hA [2, 3] rfl
        refine va_callv (va_runV (As := [.int x_27]) (rest := []) ⟨hx, hb, hml, hown, hts⟩ (c_X10_add l dC dI g (a 65) (a 66) (ct y 3) fx x_27 (Nat.lt_of_le_of_lt (ct_le y _) (by decide)) H_26.size) (cwV 1 hts gX11_type_X10_add rfl rfl rfl (by decide +kernel) ⟨Nat.le_of_ble_eq_true rfl, Nat.le_of_ble_eq_true rfl⟩) ⟨PG_blind, va_recv hK hP (ci := 12) (q0 := 2) rfl rfl, PG_call hK hG hS hPc hDc hFc⟩ rfl rfl hl.1 rfl (lv_room (Nat.le_of_ble_eq_true rfl)) dX11_type_94 ⟨Nat.le_of_ble_eq_true rfl, Nat.le_of_ble_eq_true rfl⟩) hS (fun q _ h => hFc q h) hFc (fun u_29 t_29 H_29 L_29 ht_29 hvm_29 hw_29 hB_29 hz_29 hk_29 hS => ?_)
        obtain ⟨hP1, hD1⟩ := hB_29
        rw [ht_29] at hP1
        obtain ⟨hP, hD⟩ := va_join (wr := [((a 0), .inr (13, [.ref (a 1), .ref (a 4), .ref (a 5), .ref (a 6), .ref (a 8), .ref (a 9), .ref (a 12), .ref (a 16), .ref (a 22), .ref (a 43), .ref (a 64), .ref (a 69), .int 0])), ((a 64), .inr (7, [.ref (a 65), .ref (a 67), .ref (a 68), .int 0, .int 0, .int 0, .int 0, .int 0, .int 0, .int 0, .int 0, .int 0, .int (-1)]))]) (w1 := [((a 65), .inr (12, [.ref (a 66), .int (nI ((ct y 3) + 1))])), ((a 66), .inl (g 0, 160, .inl (upd fx (nI (ct y 3)).toNatClampNeg x_27)))]) hP hD [2, 3] [0, 1] rfl rfl (by decide) (by decide) hk_29 hFc hP1 hD1
        have hP : va_P (dC, dI) vwCl [((a 0), .inr (13, [.ref (a 1), .ref (a 4), .ref (a 5), .ref (a 6), .ref (a 8), .ref (a 9), .ref (a 12), .ref (a 16), .ref (a 22), .ref (a 43), .ref (a 64), .ref (a 69), .int 0])), ((a 64), .inr (7, [.ref (a 65), .ref (a 67), .ref (a 68), .int 0, .int 0, .int 0, .int 0, .int 0, .int 0, .int 0, .int 0, .int 0, .int (-1)])), ((a 65), .inr (12, [.ref (a 66), .int (nI ((ct y 3) + 1))])), ((a 66), .inl (g 0, 160, .inl (upd fx (nI (ct y 3)).toNatClampNeg x_27)))] H_29 := hP
        have hD : va_D A [((a 0), .inr (13, [.ref (a 1), .ref (a 4), .ref (a 5), .ref (a 6), .ref (a 8), .ref (a 9), .ref (a 12), .ref (a 16), .ref (a 22), .ref (a 43), .ref (a 64), .ref (a 69), .int 0])), ((a 64), .inr (7, [.ref (a 65), .ref (a 67), .ref (a 68), .int 0, .int 0, .int 0, .int 0, .int 0, .int 0, .int 0, .int 0, .int 0, .int (-1)])), ((a 65), .inr (12, [.ref (a 66), .int (nI ((ct y 3) + 1))])), ((a 66), .inl (g 0, 160, .inl (upd fx (nI (ct y 3)).toNatClampNeg x_27)))] := hD
        refine lv_iinc (v := 24) (lv' := [(4, .int 24), (5, .int x_27), (0, .ref (a 0)), (1, .long y)]) hx hb dX11_type_97 hl (k := 1) rfl (by decide) (by decide) rfl (fun ls hl => ?_)
        refine lv_goto (tgt := 67) hx hb dX11_type_100 (by decide) ?_
        have e9 : ct y 4 = ct y 3 + 1 := (show ct y 4 = ct y 3 + (if byt y 32 = 0 then 0 else 1) from rfl).trans (by rw [if_neg (by rw [← ex_27]; exact c_28)])
        have hP8 : va_P (dC, dI) vwCl [((a 0), .inr (13, [.ref (a 1), .ref (a 4), .ref (a 5), .ref (a 6), .ref (a 8), .ref (a 9), .ref (a 12), .ref (a 16), .ref (a 22), .ref (a 43), .ref (a 64), .ref (a 69), .int 0])), ((a 64), .inr (7, [.ref (a 65), .ref (a 67), .ref (a 68), .int 0, .int 0, .int 0, .int 0, .int 0, .int 0, .int 0, .int 0, .int 0, .int (-1)])), ((a 65), .inr (12, [.ref (a 66), .int (nI (ct y 4))])), ((a 66), .inl (g 0, 160, .inl (upd fx (nI (ct y 3)).toNatClampNeg x_27)))] H_29 := by rw [e9]; exact hP.sub [0, 1, 2, 3] rfl
        have hD8 : va_D A [((a 0), .inr (13, [.ref (a 1), .ref (a 4), .ref (a 5), .ref (a 6), .ref (a 8), .ref (a 9), .ref (a 12), .ref (a 16), .ref (a 22), .ref (a 43), .ref (a 64), .ref (a 69), .int 0])), ((a 64), .inr (7, [.ref (a 65), .ref (a 67), .ref (a 68), .int 0, .int 0, .int 0, .int 0, .int 0, .int 0, .int 0, .int 0, .int 0, .int (-1)])), ((a 65), .inr (12, [.ref (a 66), .int (nI (ct y 4))])), ((a 66), .inl (g 0, 160, .inl (upd fx (nI (ct y 3)).toNatClampNeg x_27)))] := by rw [e9]; exact hD.sub [0, 1, 2, 3] (by decide) rfl
        exact HD67_4 (upd fx (nI (ct y 3)).toNatClampNeg x_27) _ _  hP8 hD8 hS _ (lv_sub hl [0, 2, 3] rfl)
    have HD67_2 : ∀ (fx : Nat → Int32) (H : Heap) (locs : List Loc), va_P (dC, dI) vwCl [((a 0), .inr (13, [.ref (a 1), .ref (a 4), .ref (a 5), .ref (a 6), .ref (a 8), .ref (a 9), .ref (a 12), .ref (a 16), .ref (a 22), .ref (a 43), .ref (a 64), .ref (a 69), .int 0])), ((a 64), .inr (7, [.ref (a 65), .ref (a 67), .ref (a 68), .int 0, .int 0, .int 0, .int 0, .int 0, .int 0, .int 0, .int 0, .int 0, .int (-1)])), ((a 65), .inr (12, [.ref (a 66), .int (nI (ct y 2))])), ((a 66), .inl (g 0, 160, .inl fx))] H → va_D A [((a 0), .inr (13, [.ref (a 1), .ref (a 4), .ref (a 5), .ref (a 6), .ref (a 8), .ref (a 9), .ref (a 12), .ref (a 16), .ref (a 22), .ref (a 43), .ref (a 64), .ref (a 69), .int 0])), ((a 64), .inr (7, [.ref (a 65), .ref (a 67), .ref (a 68), .int 0, .int 0, .int 0, .int 0, .int 0, .int 0, .int 0, .int 0, .int 0, .int (-1)])), ((a 65), .inr (12, [.ref (a 66), .int (nI (ct y 2))])), ((a 66), .inl (g 0, 160, .inl fx))] → va_S A s.heap H locs → ∀ (ls : Array Slot), lv_has ls 6 [(4, .int 40), (0, .ref (a 0)), (1, .long y)] → W p l e (headSpec wsX11_type ({ frames := 1, cells := 0, slots := 0, locals := 22 })).room s m ([.ref (a 0), .long y] : List Value).toArray below meth c H locs 0 0 Q (F0 m 67 ls []) := by
      intro fx H locs  hP hD hS ls hl
      refine lv_iload hx hb dX11_type_67 (lv_at hl 0 rfl) ?_
      refine lv_if_lt (tgt := 103) hx hb dX11_type_69 (by decide) (fun c_30 => absurd c_30 (by decide)) (fun c_30 => ?_)
      refine lv_lload_n hx hb dX11_type_72 rfl (lv_at hl 2 rfl) ?_
      refine lv_iload hx hb dX11_type_73 (lv_at hl 0 rfl) ?_
      refine va_calli (va_runS (As := [.long y, .int 40]) (rest := []) ⟨hx, hb, hml, hown, hts⟩ (c_X11_byteOf l dC dI g [((a 0), .inr (13, [.ref (a 1), .ref (a 4), .ref (a 5), .ref (a 6), .ref (a 8), .ref (a 9), .ref (a 12), .ref (a 16), .ref (a 22), .ref (a 43), .ref (a 64), .ref (a 69), .int 0])), ((a 64), .inr (7, [.ref (a 65), .ref (a 67), .ref (a 68), .int 0, .int 0, .int 0, .int 0, .int 0, .int 0, .int 0, .int 0, .int 0, .int (-1)])), ((a 65), .inr (12, [.ref (a 66), .int (nI (ct y 2))])), ((a 66), .inl (g 0, 160, .inl fx))] y 40   H.size) (va_cwS 2 hts gX11_type_X11_byteOf rfl rfl rfl (by decide +kernel) ⟨Nat.le_of_ble_eq_true rfl, Nat.le_of_ble_eq_true rfl⟩) ⟨PG_blind, PG_call hK hG hS hP hD (A_all hD hA hS.1)⟩ rfl rfl hl.1 rfl (lv_room (Nat.le_of_ble_eq_true rfl)) dX11_type_75 ⟨Nat.le_of_ble_eq_true rfl, Nat.le_of_ble_eq_true rfl⟩) hS (fun q _ h => (A_all hD hA hS.1) q h) (A_all hD hA hS.1) (fun r_31 u_31 t_31 H_31 L_31 ht_31 hvm_31 hw_31 hB_31 hz_31 hk_31 hS => ?_)
      replace hB_31 := (show va_P (dC, dI) vwCl [((a 0), .inr (13, [.ref (a 1), .ref (a 4), .ref (a 5), .ref (a 6), .ref (a 8), .ref (a 9), .ref (a 12), .ref (a 16), .ref (a 22), .ref (a 43), .ref (a 64), .ref (a 69), .int 0])), ((a 64), .inr (7, [.ref (a 65), .ref (a 67), .ref (a 68), .int 0, .int 0, .int 0, .int 0, .int 0, .int 0, .int 0, .int 0, .int 0, .int (-1)])), ((a 65), .inr (12, [.ref (a 66), .int (nI (ct y 2))])), ((a 66), .inl (g 0, 160, .inl fx))] t_31.heap from hB_31)
      rw [ht_31] at hB_31
      have hP := hB_31
      obtain rfl : r_31 = byt y 40 := hw_31
      refine lv_topi (fun x_32 ex_32 => ?_)
      refine lv_istore (lv' := [(5, .int x_32), (4, .int 40), (0, .ref (a 0)), (1, .long y)]) hx hb dX11_type_78 hl (by decide) rfl (fun ls hl => ?_)
      refine lv_iload hx hb dX11_type_80 (lv_at hl 0 rfl) ?_
      refine lv_if_eq (tgt := 97) hx hb dX11_type_82 (by decide) (fun c_33 => ?_) (fun c_33 => ?_)
      · refine lv_iinc (v := 32) (lv' := [(4, .int 32), (5, .int x_32), (0, .ref (a 0)), (1, .long y)]) hx hb dX11_type_97 hl (k := 1) rfl (by decide) (by decide) rfl (fun ls hl => ?_)
        refine lv_goto (tgt := 67) hx hb dX11_type_100 (by decide) ?_
        have e9 : ct y 3 = ct y 2 := (show ct y 3 = ct y 2 + (if byt y 40 = 0 then 0 else 1) from rfl).trans (by rw [if_pos (by rw [← ex_32]; exact c_33), Nat.add_zero])
        have hP8 : va_P (dC, dI) vwCl [((a 0), .inr (13, [.ref (a 1), .ref (a 4), .ref (a 5), .ref (a 6), .ref (a 8), .ref (a 9), .ref (a 12), .ref (a 16), .ref (a 22), .ref (a 43), .ref (a 64), .ref (a 69), .int 0])), ((a 64), .inr (7, [.ref (a 65), .ref (a 67), .ref (a 68), .int 0, .int 0, .int 0, .int 0, .int 0, .int 0, .int 0, .int 0, .int 0, .int (-1)])), ((a 65), .inr (12, [.ref (a 66), .int (nI (ct y 3))])), ((a 66), .inl (g 0, 160, .inl fx))] H_31 := by rw [e9]; exact hP.sub [0, 1, 2, 3] rfl
        have hD8 : va_D A [((a 0), .inr (13, [.ref (a 1), .ref (a 4), .ref (a 5), .ref (a 6), .ref (a 8), .ref (a 9), .ref (a 12), .ref (a 16), .ref (a 22), .ref (a 43), .ref (a 64), .ref (a 69), .int 0])), ((a 64), .inr (7, [.ref (a 65), .ref (a 67), .ref (a 68), .int 0, .int 0, .int 0, .int 0, .int 0, .int 0, .int 0, .int 0, .int 0, .int (-1)])), ((a 65), .inr (12, [.ref (a 66), .int (nI (ct y 3))])), ((a 66), .inl (g 0, 160, .inl fx))] := by rw [e9]; exact hD.sub [0, 1, 2, 3] (by decide) rfl
        exact HD67_3 fx _ _  hP8 hD8 hS _ (lv_sub hl [0, 2, 3] rfl)
      · refine lv_aload_n hx hb dX11_type_85 rfl (lv_at hl 2 rfl) ?_
        refine va_get (D := (dC, dI)) (ci := 13) (v := .ref (a 64)) (C := RX11) (T := TX11) (N := 13) hx hb hts hiX11 hown hK hP 0 rfl rfl 10 (by decide) hf71 (fun _ h9 => h9) rfl dX11_type_86 ?_
        refine va_getN (D := (dC, dI)) (ci := 7) (v := .ref (a 65)) (C := RX5) (T := TX5) (N := 13) hx hb hts hiX5 hown hK hP 1 rfl rfl 0 (by decide) (nf_52 hG) (fun _ h9 => h9) rfl dX11_type_89 ?_
        refine lv_iload hx hb dX11_type_92 (lv_at hl 0 rfl) ?_
        have hPc := hP.sub (ws' := [((a 65), .inr (12, [.ref (a 66), .int (nI (ct y 2))])), ((a 66), .inl (g 0, 160, .inl fx))]) [2, 3] rfl
        have hDc := hD.sub (ws' := [((a 65), .inr (12, [.ref (a 66), .int (nI (ct y 2))])), ((a 66), .inl (g 0, 160, .inl fx))]) [2, 3] (by decide) rfl
        have hFc := va_free (wc := [((a 65), .inr (12, [.ref (a 66), .int (nI (ct y 2))])), ((a 66), .inl (g 0, 160, .inl fx))]) hD hS hA [2, 3] rfl
        refine va_callv (va_runV (As := [.int x_32]) (rest := []) ⟨hx, hb, hml, hown, hts⟩ (c_X10_add l dC dI g (a 65) (a 66) (ct y 2) fx x_32 (Nat.lt_of_le_of_lt (ct_le y _) (by decide)) H_31.size) (cwV 1 hts gX11_type_X10_add rfl rfl rfl (by decide +kernel) ⟨Nat.le_of_ble_eq_true rfl, Nat.le_of_ble_eq_true rfl⟩) ⟨PG_blind, va_recv hK hP (ci := 12) (q0 := 2) rfl rfl, PG_call hK hG hS hPc hDc hFc⟩ rfl rfl hl.1 rfl (lv_room (Nat.le_of_ble_eq_true rfl)) dX11_type_94 ⟨Nat.le_of_ble_eq_true rfl, Nat.le_of_ble_eq_true rfl⟩) hS (fun q _ h => hFc q h) hFc (fun u_34 t_34 H_34 L_34 ht_34 hvm_34 hw_34 hB_34 hz_34 hk_34 hS => ?_)
        obtain ⟨hP1, hD1⟩ := hB_34
        rw [ht_34] at hP1
        obtain ⟨hP, hD⟩ := va_join (wr := [((a 0), .inr (13, [.ref (a 1), .ref (a 4), .ref (a 5), .ref (a 6), .ref (a 8), .ref (a 9), .ref (a 12), .ref (a 16), .ref (a 22), .ref (a 43), .ref (a 64), .ref (a 69), .int 0])), ((a 64), .inr (7, [.ref (a 65), .ref (a 67), .ref (a 68), .int 0, .int 0, .int 0, .int 0, .int 0, .int 0, .int 0, .int 0, .int 0, .int (-1)]))]) (w1 := [((a 65), .inr (12, [.ref (a 66), .int (nI ((ct y 2) + 1))])), ((a 66), .inl (g 0, 160, .inl (upd fx (nI (ct y 2)).toNatClampNeg x_32)))]) hP hD [2, 3] [0, 1] rfl rfl (by decide) (by decide) hk_34 hFc hP1 hD1
        have hP : va_P (dC, dI) vwCl [((a 0), .inr (13, [.ref (a 1), .ref (a 4), .ref (a 5), .ref (a 6), .ref (a 8), .ref (a 9), .ref (a 12), .ref (a 16), .ref (a 22), .ref (a 43), .ref (a 64), .ref (a 69), .int 0])), ((a 64), .inr (7, [.ref (a 65), .ref (a 67), .ref (a 68), .int 0, .int 0, .int 0, .int 0, .int 0, .int 0, .int 0, .int 0, .int 0, .int (-1)])), ((a 65), .inr (12, [.ref (a 66), .int (nI ((ct y 2) + 1))])), ((a 66), .inl (g 0, 160, .inl (upd fx (nI (ct y 2)).toNatClampNeg x_32)))] H_34 := hP
        have hD : va_D A [((a 0), .inr (13, [.ref (a 1), .ref (a 4), .ref (a 5), .ref (a 6), .ref (a 8), .ref (a 9), .ref (a 12), .ref (a 16), .ref (a 22), .ref (a 43), .ref (a 64), .ref (a 69), .int 0])), ((a 64), .inr (7, [.ref (a 65), .ref (a 67), .ref (a 68), .int 0, .int 0, .int 0, .int 0, .int 0, .int 0, .int 0, .int 0, .int 0, .int (-1)])), ((a 65), .inr (12, [.ref (a 66), .int (nI ((ct y 2) + 1))])), ((a 66), .inl (g 0, 160, .inl (upd fx (nI (ct y 2)).toNatClampNeg x_32)))] := hD
        refine lv_iinc (v := 32) (lv' := [(4, .int 32), (5, .int x_32), (0, .ref (a 0)), (1, .long y)]) hx hb dX11_type_97 hl (k := 1) rfl (by decide) (by decide) rfl (fun ls hl => ?_)
        refine lv_goto (tgt := 67) hx hb dX11_type_100 (by decide) ?_
        have e9 : ct y 3 = ct y 2 + 1 := (show ct y 3 = ct y 2 + (if byt y 40 = 0 then 0 else 1) from rfl).trans (by rw [if_neg (by rw [← ex_32]; exact c_33)])
        have hP8 : va_P (dC, dI) vwCl [((a 0), .inr (13, [.ref (a 1), .ref (a 4), .ref (a 5), .ref (a 6), .ref (a 8), .ref (a 9), .ref (a 12), .ref (a 16), .ref (a 22), .ref (a 43), .ref (a 64), .ref (a 69), .int 0])), ((a 64), .inr (7, [.ref (a 65), .ref (a 67), .ref (a 68), .int 0, .int 0, .int 0, .int 0, .int 0, .int 0, .int 0, .int 0, .int 0, .int (-1)])), ((a 65), .inr (12, [.ref (a 66), .int (nI (ct y 3))])), ((a 66), .inl (g 0, 160, .inl (upd fx (nI (ct y 2)).toNatClampNeg x_32)))] H_34 := by rw [e9]; exact hP.sub [0, 1, 2, 3] rfl
        have hD8 : va_D A [((a 0), .inr (13, [.ref (a 1), .ref (a 4), .ref (a 5), .ref (a 6), .ref (a 8), .ref (a 9), .ref (a 12), .ref (a 16), .ref (a 22), .ref (a 43), .ref (a 64), .ref (a 69), .int 0])), ((a 64), .inr (7, [.ref (a 65), .ref (a 67), .ref (a 68), .int 0, .int 0, .int 0, .int 0, .int 0, .int 0, .int 0, .int 0, .int 0, .int (-1)])), ((a 65), .inr (12, [.ref (a 66), .int (nI (ct y 3))])), ((a 66), .inl (g 0, 160, .inl (upd fx (nI (ct y 2)).toNatClampNeg x_32)))] := by rw [e9]; exact hD.sub [0, 1, 2, 3] (by decide) rfl
        exact HD67_3 (upd fx (nI (ct y 2)).toNatClampNeg x_32) _ _  hP8 hD8 hS _ (lv_sub hl [0, 2, 3] rfl)
    have HD67_1 : ∀ (fx : Nat → Int32) (H : Heap) (locs : List Loc), va_P (dC, dI) vwCl [((a 0), .inr (13, [.ref (a 1), .ref (a 4), .ref (a 5), .ref (a 6), .ref (a 8), .ref (a 9), .ref (a 12), .ref (a 16), .ref (a 22), .ref (a 43), .ref (a 64), .ref (a 69), .int 0])), ((a 64), .inr (7, [.ref (a 65), .ref (a 67), .ref (a 68), .int 0, .int 0, .int 0, .int 0, .int 0, .int 0, .int 0, .int 0, .int 0, .int (-1)])), ((a 65), .inr (12, [.ref (a 66), .int (nI (ct y 1))])), ((a 66), .inl (g 0, 160, .inl fx))] H → va_D A [((a 0), .inr (13, [.ref (a 1), .ref (a 4), .ref (a 5), .ref (a 6), .ref (a 8), .ref (a 9), .ref (a 12), .ref (a 16), .ref (a 22), .ref (a 43), .ref (a 64), .ref (a 69), .int 0])), ((a 64), .inr (7, [.ref (a 65), .ref (a 67), .ref (a 68), .int 0, .int 0, .int 0, .int 0, .int 0, .int 0, .int 0, .int 0, .int 0, .int (-1)])), ((a 65), .inr (12, [.ref (a 66), .int (nI (ct y 1))])), ((a 66), .inl (g 0, 160, .inl fx))] → va_S A s.heap H locs → ∀ (ls : Array Slot), lv_has ls 6 [(4, .int 48), (0, .ref (a 0)), (1, .long y)] → W p l e (headSpec wsX11_type ({ frames := 1, cells := 0, slots := 0, locals := 22 })).room s m ([.ref (a 0), .long y] : List Value).toArray below meth c H locs 0 0 Q (F0 m 67 ls []) := by
      intro fx H locs  hP hD hS ls hl
      refine lv_iload hx hb dX11_type_67 (lv_at hl 0 rfl) ?_
      refine lv_if_lt (tgt := 103) hx hb dX11_type_69 (by decide) (fun c_35 => absurd c_35 (by decide)) (fun c_35 => ?_)
      refine lv_lload_n hx hb dX11_type_72 rfl (lv_at hl 2 rfl) ?_
      refine lv_iload hx hb dX11_type_73 (lv_at hl 0 rfl) ?_
      refine va_calli (va_runS (As := [.long y, .int 48]) (rest := []) ⟨hx, hb, hml, hown, hts⟩ (c_X11_byteOf l dC dI g [((a 0), .inr (13, [.ref (a 1), .ref (a 4), .ref (a 5), .ref (a 6), .ref (a 8), .ref (a 9), .ref (a 12), .ref (a 16), .ref (a 22), .ref (a 43), .ref (a 64), .ref (a 69), .int 0])), ((a 64), .inr (7, [.ref (a 65), .ref (a 67), .ref (a 68), .int 0, .int 0, .int 0, .int 0, .int 0, .int 0, .int 0, .int 0, .int 0, .int (-1)])), ((a 65), .inr (12, [.ref (a 66), .int (nI (ct y 1))])), ((a 66), .inl (g 0, 160, .inl fx))] y 48   H.size) (va_cwS 2 hts gX11_type_X11_byteOf rfl rfl rfl (by decide +kernel) ⟨Nat.le_of_ble_eq_true rfl, Nat.le_of_ble_eq_true rfl⟩) ⟨PG_blind, PG_call hK hG hS hP hD (A_all hD hA hS.1)⟩ rfl rfl hl.1 rfl (lv_room (Nat.le_of_ble_eq_true rfl)) dX11_type_75 ⟨Nat.le_of_ble_eq_true rfl, Nat.le_of_ble_eq_true rfl⟩) hS (fun q _ h => (A_all hD hA hS.1) q h) (A_all hD hA hS.1) (fun r_36 u_36 t_36 H_36 L_36 ht_36 hvm_36 hw_36 hB_36 hz_36 hk_36 hS => ?_)
      replace hB_36 := (show va_P (dC, dI) vwCl [((a 0), .inr (13, [.ref (a 1), .ref (a 4), .ref (a 5), .ref (a 6), .ref (a 8), .ref (a 9), .ref (a 12), .ref (a 16), .ref (a 22), .ref (a 43), .ref (a 64), .ref (a 69), .int 0])), ((a 64), .inr (7, [.ref (a 65), .ref (a 67), .ref (a 68), .int 0, .int 0, .int 0, .int 0, .int 0, .int 0, .int 0, .int 0, .int 0, .int (-1)])), ((a 65), .inr (12, [.ref (a 66), .int (nI (ct y 1))])), ((a 66), .inl (g 0, 160, .inl fx))] t_36.heap from hB_36)
      rw [ht_36] at hB_36
      have hP := hB_36
      obtain rfl : r_36 = byt y 48 := hw_36
      refine lv_topi (fun x_37 ex_37 => ?_)
      refine lv_istore (lv' := [(5, .int x_37), (4, .int 48), (0, .ref (a 0)), (1, .long y)]) hx hb dX11_type_78 hl (by decide) rfl (fun ls hl => ?_)
      refine lv_iload hx hb dX11_type_80 (lv_at hl 0 rfl) ?_
      refine lv_if_eq (tgt := 97) hx hb dX11_type_82 (by decide) (fun c_38 => ?_) (fun c_38 => ?_)
      · refine lv_iinc (v := 40) (lv' := [(4, .int 40), (5, .int x_37), (0, .ref (a 0)), (1, .long y)]) hx hb dX11_type_97 hl (k := 1) rfl (by decide) (by decide) rfl (fun ls hl => ?_)
        refine lv_goto (tgt := 67) hx hb dX11_type_100 (by decide) ?_
        have e9 : ct y 2 = ct y 1 := (show ct y 2 = ct y 1 + (if byt y 48 = 0 then 0 else 1) from rfl).trans (by rw [if_pos (by rw [← ex_37]; exact c_38), Nat.add_zero])
        have hP8 : va_P (dC, dI) vwCl [((a 0), .inr (13, [.ref (a 1), .ref (a 4), .ref (a 5), .ref (a 6), .ref (a 8), .ref (a 9), .ref (a 12), .ref (a 16), .ref (a 22), .ref (a 43), .ref (a 64), .ref (a 69), .int 0])), ((a 64), .inr (7, [.ref (a 65), .ref (a 67), .ref (a 68), .int 0, .int 0, .int 0, .int 0, .int 0, .int 0, .int 0, .int 0, .int 0, .int (-1)])), ((a 65), .inr (12, [.ref (a 66), .int (nI (ct y 2))])), ((a 66), .inl (g 0, 160, .inl fx))] H_36 := by rw [e9]; exact hP.sub [0, 1, 2, 3] rfl
        have hD8 : va_D A [((a 0), .inr (13, [.ref (a 1), .ref (a 4), .ref (a 5), .ref (a 6), .ref (a 8), .ref (a 9), .ref (a 12), .ref (a 16), .ref (a 22), .ref (a 43), .ref (a 64), .ref (a 69), .int 0])), ((a 64), .inr (7, [.ref (a 65), .ref (a 67), .ref (a 68), .int 0, .int 0, .int 0, .int 0, .int 0, .int 0, .int 0, .int 0, .int 0, .int (-1)])), ((a 65), .inr (12, [.ref (a 66), .int (nI (ct y 2))])), ((a 66), .inl (g 0, 160, .inl fx))] := by rw [e9]; exact hD.sub [0, 1, 2, 3] (by decide) rfl
        exact HD67_2 fx _ _  hP8 hD8 hS _ (lv_sub hl [0, 2, 3] rfl)
      · refine lv_aload_n hx hb dX11_type_85 rfl (lv_at hl 2 rfl) ?_
        refine va_get (D := (dC, dI)) (ci := 13) (v := .ref (a 64)) (C := RX11) (T := TX11) (N := 13) hx hb hts hiX11 hown hK hP 0 rfl rfl 10 (by decide) hf71 (fun _ h9 => h9) rfl dX11_type_86 ?_
        refine va_getN (D := (dC, dI)) (ci := 7) (v := .ref (a 65)) (C := RX5) (T := TX5) (N := 13) hx hb hts hiX5 hown hK hP 1 rfl rfl 0 (by decide) (nf_52 hG) (fun _ h9 => h9) rfl dX11_type_89 ?_
        refine lv_iload hx hb dX11_type_92 (lv_at hl 0 rfl) ?_
        have hPc := hP.sub (ws' := [((a 65), .inr (12, [.ref (a 66), .int (nI (ct y 1))])), ((a 66), .inl (g 0, 160, .inl fx))]) [2, 3] rfl
        have hDc := hD.sub (ws' := [((a 65), .inr (12, [.ref (a 66), .int (nI (ct y 1))])), ((a 66), .inl (g 0, 160, .inl fx))]) [2, 3] (by decide) rfl
        have hFc := va_free (wc := [((a 65), .inr (12, [.ref (a 66), .int (nI (ct y 1))])), ((a 66), .inl (g 0, 160, .inl fx))]) hD hS hA [2, 3] rfl
        refine va_callv (va_runV (As := [.int x_37]) (rest := []) ⟨hx, hb, hml, hown, hts⟩ (c_X10_add l dC dI g (a 65) (a 66) (ct y 1) fx x_37 (Nat.lt_of_le_of_lt (ct_le y _) (by decide)) H_36.size) (cwV 1 hts gX11_type_X10_add rfl rfl rfl (by decide +kernel) ⟨Nat.le_of_ble_eq_true rfl, Nat.le_of_ble_eq_true rfl⟩) ⟨PG_blind, va_recv hK hP (ci := 12) (q0 := 2) rfl rfl, PG_call hK hG hS hPc hDc hFc⟩ rfl rfl hl.1 rfl (lv_room (Nat.le_of_ble_eq_true rfl)) dX11_type_94 ⟨Nat.le_of_ble_eq_true rfl, Nat.le_of_ble_eq_true rfl⟩) hS (fun q _ h => hFc q h) hFc (fun u_39 t_39 H_39 L_39 ht_39 hvm_39 hw_39 hB_39 hz_39 hk_39 hS => ?_)
        obtain ⟨hP1, hD1⟩ := hB_39
        rw [ht_39] at hP1
        obtain ⟨hP, hD⟩ := va_join (wr := [((a 0), .inr (13, [.ref (a 1), .ref (a 4), .ref (a 5), .ref (a 6), .ref (a 8), .ref (a 9), .ref (a 12), .ref (a 16), .ref (a 22), .ref (a 43), .ref (a 64), .ref (a 69), .int 0])), ((a 64), .inr (7, [.ref (a 65), .ref (a 67), .ref (a 68), .int 0, .int 0, .int 0, .int 0, .int 0, .int 0, .int 0, .int 0, .int 0, .int (-1)]))]) (w1 := [((a 65), .inr (12, [.ref (a 66), .int (nI ((ct y 1) + 1))])), ((a 66), .inl (g 0, 160, .inl (upd fx (nI (ct y 1)).toNatClampNeg x_37)))]) hP hD [2, 3] [0, 1] rfl rfl (by decide) (by decide) hk_39 hFc hP1 hD1
        have hP : va_P (dC, dI) vwCl [((a 0), .inr (13, [.ref (a 1), .ref (a 4), .ref (a 5), .ref (a 6), .ref (a 8), .ref (a 9), .ref (a 12), .ref (a 16), .ref (a 22), .ref (a 43), .ref (a 64), .ref (a 69), .int 0])), ((a 64), .inr (7, [.ref (a 65), .ref (a 67), .ref (a 68), .int 0, .int 0, .int 0, .int 0, .int 0, .int 0, .int 0, .int 0, .int 0, .int (-1)])), ((a 65), .inr (12, [.ref (a 66), .int (nI ((ct y 1) + 1))])), ((a 66), .inl (g 0, 160, .inl (upd fx (nI (ct y 1)).toNatClampNeg x_37)))] H_39 := hP
        have hD : va_D A [((a 0), .inr (13, [.ref (a 1), .ref (a 4), .ref (a 5), .ref (a 6), .ref (a 8), .ref (a 9), .ref (a 12), .ref (a 16), .ref (a 22), .ref (a 43), .ref (a 64), .ref (a 69), .int 0])), ((a 64), .inr (7, [.ref (a 65), .ref (a 67), .ref (a 68), .int 0, .int 0, .int 0, .int 0, .int 0, .int 0, .int 0, .int 0, .int 0, .int (-1)])), ((a 65), .inr (12, [.ref (a 66), .int (nI ((ct y 1) + 1))])), ((a 66), .inl (g 0, 160, .inl (upd fx (nI (ct y 1)).toNatClampNeg x_37)))] := hD
        refine lv_iinc (v := 40) (lv' := [(4, .int 40), (5, .int x_37), (0, .ref (a 0)), (1, .long y)]) hx hb dX11_type_97 hl (k := 1) rfl (by decide) (by decide) rfl (fun ls hl => ?_)
        refine lv_goto (tgt := 67) hx hb dX11_type_100 (by decide) ?_
        have e9 : ct y 2 = ct y 1 + 1 := (show ct y 2 = ct y 1 + (if byt y 48 = 0 then 0 else 1) from rfl).trans (by rw [if_neg (by rw [← ex_37]; exact c_38)])
        have hP8 : va_P (dC, dI) vwCl [((a 0), .inr (13, [.ref (a 1), .ref (a 4), .ref (a 5), .ref (a 6), .ref (a 8), .ref (a 9), .ref (a 12), .ref (a 16), .ref (a 22), .ref (a 43), .ref (a 64), .ref (a 69), .int 0])), ((a 64), .inr (7, [.ref (a 65), .ref (a 67), .ref (a 68), .int 0, .int 0, .int 0, .int 0, .int 0, .int 0, .int 0, .int 0, .int 0, .int (-1)])), ((a 65), .inr (12, [.ref (a 66), .int (nI (ct y 2))])), ((a 66), .inl (g 0, 160, .inl (upd fx (nI (ct y 1)).toNatClampNeg x_37)))] H_39 := by rw [e9]; exact hP.sub [0, 1, 2, 3] rfl
        have hD8 : va_D A [((a 0), .inr (13, [.ref (a 1), .ref (a 4), .ref (a 5), .ref (a 6), .ref (a 8), .ref (a 9), .ref (a 12), .ref (a 16), .ref (a 22), .ref (a 43), .ref (a 64), .ref (a 69), .int 0])), ((a 64), .inr (7, [.ref (a 65), .ref (a 67), .ref (a 68), .int 0, .int 0, .int 0, .int 0, .int 0, .int 0, .int 0, .int 0, .int 0, .int (-1)])), ((a 65), .inr (12, [.ref (a 66), .int (nI (ct y 2))])), ((a 66), .inl (g 0, 160, .inl (upd fx (nI (ct y 1)).toNatClampNeg x_37)))] := by rw [e9]; exact hD.sub [0, 1, 2, 3] (by decide) rfl
        exact HD67_2 (upd fx (nI (ct y 1)).toNatClampNeg x_37) _ _  hP8 hD8 hS _ (lv_sub hl [0, 2, 3] rfl)
    have HD67_0 : ∀ (fx : Nat → Int32) (H : Heap) (locs : List Loc), va_P (dC, dI) vwCl [((a 0), .inr (13, [.ref (a 1), .ref (a 4), .ref (a 5), .ref (a 6), .ref (a 8), .ref (a 9), .ref (a 12), .ref (a 16), .ref (a 22), .ref (a 43), .ref (a 64), .ref (a 69), .int 0])), ((a 64), .inr (7, [.ref (a 65), .ref (a 67), .ref (a 68), .int 0, .int 0, .int 0, .int 0, .int 0, .int 0, .int 0, .int 0, .int 0, .int (-1)])), ((a 65), .inr (12, [.ref (a 66), .int (nI (ct y 0))])), ((a 66), .inl (g 0, 160, .inl fx))] H → va_D A [((a 0), .inr (13, [.ref (a 1), .ref (a 4), .ref (a 5), .ref (a 6), .ref (a 8), .ref (a 9), .ref (a 12), .ref (a 16), .ref (a 22), .ref (a 43), .ref (a 64), .ref (a 69), .int 0])), ((a 64), .inr (7, [.ref (a 65), .ref (a 67), .ref (a 68), .int 0, .int 0, .int 0, .int 0, .int 0, .int 0, .int 0, .int 0, .int 0, .int (-1)])), ((a 65), .inr (12, [.ref (a 66), .int (nI (ct y 0))])), ((a 66), .inl (g 0, 160, .inl fx))] → va_S A s.heap H locs → ∀ (ls : Array Slot), lv_has ls 6 [(4, .int 56), (0, .ref (a 0)), (1, .long y)] → W p l e (headSpec wsX11_type ({ frames := 1, cells := 0, slots := 0, locals := 22 })).room s m ([.ref (a 0), .long y] : List Value).toArray below meth c H locs 0 0 Q (F0 m 67 ls []) := by
      intro fx H locs  hP hD hS ls hl
      refine lv_iload hx hb dX11_type_67 (lv_at hl 0 rfl) ?_
      refine lv_if_lt (tgt := 103) hx hb dX11_type_69 (by decide) (fun c_40 => absurd c_40 (by decide)) (fun c_40 => ?_)
      refine lv_lload_n hx hb dX11_type_72 rfl (lv_at hl 2 rfl) ?_
      refine lv_iload hx hb dX11_type_73 (lv_at hl 0 rfl) ?_
      refine va_calli (va_runS (As := [.long y, .int 56]) (rest := []) ⟨hx, hb, hml, hown, hts⟩ (c_X11_byteOf l dC dI g [((a 0), .inr (13, [.ref (a 1), .ref (a 4), .ref (a 5), .ref (a 6), .ref (a 8), .ref (a 9), .ref (a 12), .ref (a 16), .ref (a 22), .ref (a 43), .ref (a 64), .ref (a 69), .int 0])), ((a 64), .inr (7, [.ref (a 65), .ref (a 67), .ref (a 68), .int 0, .int 0, .int 0, .int 0, .int 0, .int 0, .int 0, .int 0, .int 0, .int (-1)])), ((a 65), .inr (12, [.ref (a 66), .int (nI (ct y 0))])), ((a 66), .inl (g 0, 160, .inl fx))] y 56   H.size) (va_cwS 2 hts gX11_type_X11_byteOf rfl rfl rfl (by decide +kernel) ⟨Nat.le_of_ble_eq_true rfl, Nat.le_of_ble_eq_true rfl⟩) ⟨PG_blind, PG_call hK hG hS hP hD (A_all hD hA hS.1)⟩ rfl rfl hl.1 rfl (lv_room (Nat.le_of_ble_eq_true rfl)) dX11_type_75 ⟨Nat.le_of_ble_eq_true rfl, Nat.le_of_ble_eq_true rfl⟩) hS (fun q _ h => (A_all hD hA hS.1) q h) (A_all hD hA hS.1) (fun r_41 u_41 t_41 H_41 L_41 ht_41 hvm_41 hw_41 hB_41 hz_41 hk_41 hS => ?_)
      replace hB_41 := (show va_P (dC, dI) vwCl [((a 0), .inr (13, [.ref (a 1), .ref (a 4), .ref (a 5), .ref (a 6), .ref (a 8), .ref (a 9), .ref (a 12), .ref (a 16), .ref (a 22), .ref (a 43), .ref (a 64), .ref (a 69), .int 0])), ((a 64), .inr (7, [.ref (a 65), .ref (a 67), .ref (a 68), .int 0, .int 0, .int 0, .int 0, .int 0, .int 0, .int 0, .int 0, .int 0, .int (-1)])), ((a 65), .inr (12, [.ref (a 66), .int (nI (ct y 0))])), ((a 66), .inl (g 0, 160, .inl fx))] t_41.heap from hB_41)
      rw [ht_41] at hB_41
      have hP := hB_41
      obtain rfl : r_41 = byt y 56 := hw_41
      refine lv_topi (fun x_42 ex_42 => ?_)
      refine lv_istore (lv' := [(5, .int x_42), (4, .int 56), (0, .ref (a 0)), (1, .long y)]) hx hb dX11_type_78 hl (by decide) rfl (fun ls hl => ?_)
      refine lv_iload hx hb dX11_type_80 (lv_at hl 0 rfl) ?_
      refine lv_if_eq (tgt := 97) hx hb dX11_type_82 (by decide) (fun c_43 => ?_) (fun c_43 => ?_)
      · refine lv_iinc (v := 48) (lv' := [(4, .int 48), (5, .int x_42), (0, .ref (a 0)), (1, .long y)]) hx hb dX11_type_97 hl (k := 1) rfl (by decide) (by decide) rfl (fun ls hl => ?_)
        refine lv_goto (tgt := 67) hx hb dX11_type_100 (by decide) ?_
        have e9 : ct y 1 = ct y 0 := (show ct y 1 = ct y 0 + (if byt y 56 = 0 then 0 else 1) from rfl).trans (by rw [if_pos (by rw [← ex_42]; exact c_43), Nat.add_zero])
        have hP8 : va_P (dC, dI) vwCl [((a 0), .inr (13, [.ref (a 1), .ref (a 4), .ref (a 5), .ref (a 6), .ref (a 8), .ref (a 9), .ref (a 12), .ref (a 16), .ref (a 22), .ref (a 43), .ref (a 64), .ref (a 69), .int 0])), ((a 64), .inr (7, [.ref (a 65), .ref (a 67), .ref (a 68), .int 0, .int 0, .int 0, .int 0, .int 0, .int 0, .int 0, .int 0, .int 0, .int (-1)])), ((a 65), .inr (12, [.ref (a 66), .int (nI (ct y 1))])), ((a 66), .inl (g 0, 160, .inl fx))] H_41 := by rw [e9]; exact hP.sub [0, 1, 2, 3] rfl
        have hD8 : va_D A [((a 0), .inr (13, [.ref (a 1), .ref (a 4), .ref (a 5), .ref (a 6), .ref (a 8), .ref (a 9), .ref (a 12), .ref (a 16), .ref (a 22), .ref (a 43), .ref (a 64), .ref (a 69), .int 0])), ((a 64), .inr (7, [.ref (a 65), .ref (a 67), .ref (a 68), .int 0, .int 0, .int 0, .int 0, .int 0, .int 0, .int 0, .int 0, .int 0, .int (-1)])), ((a 65), .inr (12, [.ref (a 66), .int (nI (ct y 1))])), ((a 66), .inl (g 0, 160, .inl fx))] := by rw [e9]; exact hD.sub [0, 1, 2, 3] (by decide) rfl
        exact HD67_1 fx _ _  hP8 hD8 hS _ (lv_sub hl [0, 2, 3] rfl)
      · refine lv_aload_n hx hb dX11_type_85 rfl (lv_at hl 2 rfl) ?_
        refine va_get (D := (dC, dI)) (ci := 13) (v := .ref (a 64)) (C := RX11) (T := TX11) (N := 13) hx hb hts hiX11 hown hK hP 0 rfl rfl 10 (by decide) hf71 (fun _ h9 => h9) rfl dX11_type_86 ?_
        refine va_getN (D := (dC, dI)) (ci := 7) (v := .ref (a 65)) (C := RX5) (T := TX5) (N := 13) hx hb hts hiX5 hown hK hP 1 rfl rfl 0 (by decide) (nf_52 hG) (fun _ h9 => h9) rfl dX11_type_89 ?_
        refine lv_iload hx hb dX11_type_92 (lv_at hl 0 rfl) ?_
        have hPc := hP.sub (ws' := [((a 65), .inr (12, [.ref (a 66), .int (nI (ct y 0))])), ((a 66), .inl (g 0, 160, .inl fx))]) [2, 3] rfl
        have hDc := hD.sub (ws' := [((a 65), .inr (12, [.ref (a 66), .int (nI (ct y 0))])), ((a 66), .inl (g 0, 160, .inl fx))]) [2, 3] (by decide) rfl
        have hFc := va_free (wc := [((a 65), .inr (12, [.ref (a 66), .int (nI (ct y 0))])), ((a 66), .inl (g 0, 160, .inl fx))]) hD hS hA [2, 3] rfl
        refine va_callv (va_runV (As := [.int x_42]) (rest := []) ⟨hx, hb, hml, hown, hts⟩ (c_X10_add l dC dI g (a 65) (a 66) (ct y 0) fx x_42 (Nat.lt_of_le_of_lt (ct_le y _) (by decide)) H_41.size) (cwV 1 hts gX11_type_X10_add rfl rfl rfl (by decide +kernel) ⟨Nat.le_of_ble_eq_true rfl, Nat.le_of_ble_eq_true rfl⟩) ⟨PG_blind, va_recv hK hP (ci := 12) (q0 := 2) rfl rfl, PG_call hK hG hS hPc hDc hFc⟩ rfl rfl hl.1 rfl (lv_room (Nat.le_of_ble_eq_true rfl)) dX11_type_94 ⟨Nat.le_of_ble_eq_true rfl, Nat.le_of_ble_eq_true rfl⟩) hS (fun q _ h => hFc q h) hFc (fun u_44 t_44 H_44 L_44 ht_44 hvm_44 hw_44 hB_44 hz_44 hk_44 hS => ?_)
        obtain ⟨hP1, hD1⟩ := hB_44
        rw [ht_44] at hP1
        obtain ⟨hP, hD⟩ := va_join (wr := [((a 0), .inr (13, [.ref (a 1), .ref (a 4), .ref (a 5), .ref (a 6), .ref (a 8), .ref (a 9), .ref (a 12), .ref (a 16), .ref (a 22), .ref (a 43), .ref (a 64), .ref (a 69), .int 0])), ((a 64), .inr (7, [.ref (a 65), .ref (a 67), .ref (a 68), .int 0, .int 0, .int 0, .int 0, .int 0, .int 0, .int 0, .int 0, .int 0, .int (-1)]))]) (w1 := [((a 65), .inr (12, [.ref (a 66), .int (nI ((ct y 0) + 1))])), ((a 66), .inl (g 0, 160, .inl (upd fx (nI (ct y 0)).toNatClampNeg x_42)))]) hP hD [2, 3] [0, 1] rfl rfl (by decide) (by decide) hk_44 hFc hP1 hD1
        have hP : va_P (dC, dI) vwCl [((a 0), .inr (13, [.ref (a 1), .ref (a 4), .ref (a 5), .ref (a 6), .ref (a 8), .ref (a 9), .ref (a 12), .ref (a 16), .ref (a 22), .ref (a 43), .ref (a 64), .ref (a 69), .int 0])), ((a 64), .inr (7, [.ref (a 65), .ref (a 67), .ref (a 68), .int 0, .int 0, .int 0, .int 0, .int 0, .int 0, .int 0, .int 0, .int 0, .int (-1)])), ((a 65), .inr (12, [.ref (a 66), .int (nI ((ct y 0) + 1))])), ((a 66), .inl (g 0, 160, .inl (upd fx (nI (ct y 0)).toNatClampNeg x_42)))] H_44 := hP
        have hD : va_D A [((a 0), .inr (13, [.ref (a 1), .ref (a 4), .ref (a 5), .ref (a 6), .ref (a 8), .ref (a 9), .ref (a 12), .ref (a 16), .ref (a 22), .ref (a 43), .ref (a 64), .ref (a 69), .int 0])), ((a 64), .inr (7, [.ref (a 65), .ref (a 67), .ref (a 68), .int 0, .int 0, .int 0, .int 0, .int 0, .int 0, .int 0, .int 0, .int 0, .int (-1)])), ((a 65), .inr (12, [.ref (a 66), .int (nI ((ct y 0) + 1))])), ((a 66), .inl (g 0, 160, .inl (upd fx (nI (ct y 0)).toNatClampNeg x_42)))] := hD
        refine lv_iinc (v := 48) (lv' := [(4, .int 48), (5, .int x_42), (0, .ref (a 0)), (1, .long y)]) hx hb dX11_type_97 hl (k := 1) rfl (by decide) (by decide) rfl (fun ls hl => ?_)
        refine lv_goto (tgt := 67) hx hb dX11_type_100 (by decide) ?_
        have e9 : ct y 1 = ct y 0 + 1 := (show ct y 1 = ct y 0 + (if byt y 56 = 0 then 0 else 1) from rfl).trans (by rw [if_neg (by rw [← ex_42]; exact c_43)])
        have hP8 : va_P (dC, dI) vwCl [((a 0), .inr (13, [.ref (a 1), .ref (a 4), .ref (a 5), .ref (a 6), .ref (a 8), .ref (a 9), .ref (a 12), .ref (a 16), .ref (a 22), .ref (a 43), .ref (a 64), .ref (a 69), .int 0])), ((a 64), .inr (7, [.ref (a 65), .ref (a 67), .ref (a 68), .int 0, .int 0, .int 0, .int 0, .int 0, .int 0, .int 0, .int 0, .int 0, .int (-1)])), ((a 65), .inr (12, [.ref (a 66), .int (nI (ct y 1))])), ((a 66), .inl (g 0, 160, .inl (upd fx (nI (ct y 0)).toNatClampNeg x_42)))] H_44 := by rw [e9]; exact hP.sub [0, 1, 2, 3] rfl
        have hD8 : va_D A [((a 0), .inr (13, [.ref (a 1), .ref (a 4), .ref (a 5), .ref (a 6), .ref (a 8), .ref (a 9), .ref (a 12), .ref (a 16), .ref (a 22), .ref (a 43), .ref (a 64), .ref (a 69), .int 0])), ((a 64), .inr (7, [.ref (a 65), .ref (a 67), .ref (a 68), .int 0, .int 0, .int 0, .int 0, .int 0, .int 0, .int 0, .int 0, .int 0, .int (-1)])), ((a 65), .inr (12, [.ref (a 66), .int (nI (ct y 1))])), ((a 66), .inl (g 0, 160, .inl (upd fx (nI (ct y 0)).toNatClampNeg x_42)))] := by rw [e9]; exact hD.sub [0, 1, 2, 3] (by decide) rfl
        exact HD67_1 (upd fx (nI (ct y 0)).toNatClampNeg x_42) _ _  hP8 hD8 hS _ (lv_sub hl [0, 2, 3] rfl)
    exact HD67_0 (fun _ => 0) _ _  (hP.sub (ws' := [((a 0), .inr (13, [.ref (a 1), .ref (a 4), .ref (a 5), .ref (a 6), .ref (a 8), .ref (a 9), .ref (a 12), .ref (a 16), .ref (a 22), .ref (a 43), .ref (a 64), .ref (a 69), .int 0])), ((a 64), .inr (7, [.ref (a 65), .ref (a 67), .ref (a 68), .int 0, .int 0, .int 0, .int 0, .int 0, .int 0, .int 0, .int 0, .int 0, .int (-1)])), ((a 65), .inr (12, [.ref (a 66), .int (nI (ct y 0))])), ((a 66), .inl (g 0, 160, .inl (fun _ => 0)))]) [0, 1, 2, 3] rfl) (hD.sub (ws' := [((a 0), .inr (13, [.ref (a 1), .ref (a 4), .ref (a 5), .ref (a 6), .ref (a 8), .ref (a 9), .ref (a 12), .ref (a 16), .ref (a 22), .ref (a 43), .ref (a 64), .ref (a 69), .int 0])), ((a 64), .inr (7, [.ref (a 65), .ref (a 67), .ref (a 68), .int 0, .int 0, .int 0, .int 0, .int 0, .int 0, .int 0, .int 0, .int 0, .int (-1)])), ((a 65), .inr (12, [.ref (a 66), .int (nI (ct y 0))])), ((a 66), .inl (g 0, 160, .inl (fun _ => 0)))]) [0, 1, 2, 3] (by decide) rfl) hS _ (lv_sub hl [0, 1, 2] rfl)
  have HD6_7 : ∀ (j : Nat) (H : Heap) (locs : List Loc), j ≤ 7 → va_P (dC, dI) vwCl (offW a g) H → va_S A s.heap H locs → ∀ (ls : Array Slot), lv_has ls 6 [(4, .int 0), (0, .ref (a 0)), (1, .long y), (3, .int (nI j))] → W p l e (headSpec wsX11_type ({ frames := 1, cells := 0, slots := 0, locals := 22 })).room s m ([.ref (a 0), .long y] : List Value).toArray below meth c H locs 0 0 Q (F0 m 6 ls []) := by
    intro j H locs hj hP hS ls hl
    refine lv_iload hx hb dX11_type_6 (lv_at hl 0 rfl) ?_
    refine lv_if_lt (tgt := 34) hx hb dX11_type_8 (by decide) (fun c_45 => absurd c_45 (by decide)) (fun c_45 => ?_)
    refine lv_iload_n hx hb dX11_type_11 rfl (lv_at hl 3 rfl) ?_
    refine lv_lload_n hx hb dX11_type_12 rfl (lv_at hl 2 rfl) ?_
    refine lv_iload hx hb dX11_type_13 (lv_at hl 0 rfl) ?_
    refine va_calli (va_runS (As := [.long y, .int 0]) (rest := [.int (nI j)]) ⟨hx, hb, hml, hown, hts⟩ (c_X11_byteOf l dC dI g (offW a g) y 0   H.size) (va_cwS 2 hts gX11_type_X11_byteOf rfl rfl rfl (by decide +kernel) ⟨Nat.le_of_ble_eq_true rfl, Nat.le_of_ble_eq_true rfl⟩) ⟨PG_blind, PG_call hK hG hS hP hD (A_all hD hA hS.1)⟩ rfl rfl hl.1 rfl (lv_room (Nat.le_of_ble_eq_true rfl)) dX11_type_15 ⟨Nat.le_of_ble_eq_true rfl, Nat.le_of_ble_eq_true rfl⟩) hS (fun q _ h => (A_all hD hA hS.1) q h) (A_all hD hA hS.1) (fun r_46 u_46 t_46 H_46 L_46 ht_46 hvm_46 hw_46 hB_46 hz_46 hk_46 hS => ?_)
    replace hB_46 := (show va_P (dC, dI) vwCl (offW a g) t_46.heap from hB_46)
    rw [ht_46] at hB_46
    have hP := hB_46
    obtain rfl : r_46 = byt y 0 := hw_46
    refine lv_if_eq (tgt := 25) hx hb dX11_type_18 (by decide) (fun c_47 => ?_) (fun c_47 => ?_)
    · refine lv_iconst (v := 0) hx hb dX11_type_25 (by decide) ?_
      refine lv_iadd hx hb dX11_type_26 ?_
      refine lv_topi (fun x_48 ex_48 => ?_)
      obtain rfl : x_48 = (nI j) := ex_48.trans (Int32.add_zero _)
      refine lv_istore_n (lv' := [(3, .int (nI j)), (4, .int 0), (0, .ref (a 0)), (1, .long y)]) hx hb dX11_type_27 rfl hl (by decide) rfl (fun ls hl => ?_)
      refine lv_iinc (v := (-8)) (lv' := [(4, .int (-8)), (3, .int (nI j)), (0, .ref (a 0)), (1, .long y)]) hx hb dX11_type_28 hl (k := 1) rfl (by decide) (by decide) rfl (fun ls hl => ?_)
      refine lv_goto (tgt := 6) hx hb dX11_type_31 (by decide) ?_
      exact HD6_8 j _ _ (by omega) hP hS _ (lv_sub hl [0, 2, 3, 1] rfl)
    · refine lv_iconst (v := 1) hx hb dX11_type_21 (by decide) ?_
      refine lv_goto (tgt := 26) hx hb dX11_type_22 (by decide) ?_
      refine lv_iadd hx hb dX11_type_26 ?_
      refine lv_topi (fun x_49 ex_49 => ?_)
      obtain rfl : x_49 = nI (j + 1) := ex_49.trans (nI_1 _)
      refine lv_istore_n (lv' := [(3, .int (nI (j + 1))), (4, .int 0), (0, .ref (a 0)), (1, .long y)]) hx hb dX11_type_27 rfl hl (by decide) rfl (fun ls hl => ?_)
      refine lv_iinc (v := (-8)) (lv' := [(4, .int (-8)), (3, .int (nI (j + 1))), (0, .ref (a 0)), (1, .long y)]) hx hb dX11_type_28 hl (k := 1) rfl (by decide) (by decide) rfl (fun ls hl => ?_)
      refine lv_goto (tgt := 6) hx hb dX11_type_31 (by decide) ?_
      exact HD6_8 (j + 1) _ _ (by omega) hP hS _ (lv_sub hl [0, 2, 3, 1] rfl)
  have HD6_6 : ∀ (j : Nat) (H : Heap) (locs : List Loc), j ≤ 6 → va_P (dC, dI) vwCl (offW a g) H → va_S A s.heap H locs → ∀ (ls : Array Slot), lv_has ls 6 [(4, .int 8), (0, .ref (a 0)), (1, .long y), (3, .int (nI j))] → W p l e (headSpec wsX11_type ({ frames := 1, cells := 0, slots := 0, locals := 22 })).room s m ([.ref (a 0), .long y] : List Value).toArray below meth c H locs 0 0 Q (F0 m 6 ls []) := by
    intro j H locs hj hP hS ls hl
    refine lv_iload hx hb dX11_type_6 (lv_at hl 0 rfl) ?_
    refine lv_if_lt (tgt := 34) hx hb dX11_type_8 (by decide) (fun c_50 => absurd c_50 (by decide)) (fun c_50 => ?_)
    refine lv_iload_n hx hb dX11_type_11 rfl (lv_at hl 3 rfl) ?_
    refine lv_lload_n hx hb dX11_type_12 rfl (lv_at hl 2 rfl) ?_
    refine lv_iload hx hb dX11_type_13 (lv_at hl 0 rfl) ?_
    refine va_calli (va_runS (As := [.long y, .int 8]) (rest := [.int (nI j)]) ⟨hx, hb, hml, hown, hts⟩ (c_X11_byteOf l dC dI g (offW a g) y 8   H.size) (va_cwS 2 hts gX11_type_X11_byteOf rfl rfl rfl (by decide +kernel) ⟨Nat.le_of_ble_eq_true rfl, Nat.le_of_ble_eq_true rfl⟩) ⟨PG_blind, PG_call hK hG hS hP hD (A_all hD hA hS.1)⟩ rfl rfl hl.1 rfl (lv_room (Nat.le_of_ble_eq_true rfl)) dX11_type_15 ⟨Nat.le_of_ble_eq_true rfl, Nat.le_of_ble_eq_true rfl⟩) hS (fun q _ h => (A_all hD hA hS.1) q h) (A_all hD hA hS.1) (fun r_51 u_51 t_51 H_51 L_51 ht_51 hvm_51 hw_51 hB_51 hz_51 hk_51 hS => ?_)
    replace hB_51 := (show va_P (dC, dI) vwCl (offW a g) t_51.heap from hB_51)
    rw [ht_51] at hB_51
    have hP := hB_51
    obtain rfl : r_51 = byt y 8 := hw_51
    refine lv_if_eq (tgt := 25) hx hb dX11_type_18 (by decide) (fun c_52 => ?_) (fun c_52 => ?_)
    · refine lv_iconst (v := 0) hx hb dX11_type_25 (by decide) ?_
      refine lv_iadd hx hb dX11_type_26 ?_
      refine lv_topi (fun x_53 ex_53 => ?_)
      obtain rfl : x_53 = (nI j) := ex_53.trans (Int32.add_zero _)
      refine lv_istore_n (lv' := [(3, .int (nI j)), (4, .int 8), (0, .ref (a 0)), (1, .long y)]) hx hb dX11_type_27 rfl hl (by decide) rfl (fun ls hl => ?_)
      refine lv_iinc (v := 0) (lv' := [(4, .int 0), (3, .int (nI j)), (0, .ref (a 0)), (1, .long y)]) hx hb dX11_type_28 hl (k := 1) rfl (by decide) (by decide) rfl (fun ls hl => ?_)
      refine lv_goto (tgt := 6) hx hb dX11_type_31 (by decide) ?_
      exact HD6_7 j _ _ (by omega) hP hS _ (lv_sub hl [0, 2, 3, 1] rfl)
    · refine lv_iconst (v := 1) hx hb dX11_type_21 (by decide) ?_
      refine lv_goto (tgt := 26) hx hb dX11_type_22 (by decide) ?_
      refine lv_iadd hx hb dX11_type_26 ?_
      refine lv_topi (fun x_54 ex_54 => ?_)
      obtain rfl : x_54 = nI (j + 1) := ex_54.trans (nI_1 _)
      refine lv_istore_n (lv' := [(3, .int (nI (j + 1))), (4, .int 8), (0, .ref (a 0)), (1, .long y)]) hx hb dX11_type_27 rfl hl (by decide) rfl (fun ls hl => ?_)
      refine lv_iinc (v := 0) (lv' := [(4, .int 0), (3, .int (nI (j + 1))), (0, .ref (a 0)), (1, .long y)]) hx hb dX11_type_28 hl (k := 1) rfl (by decide) (by decide) rfl (fun ls hl => ?_)
      refine lv_goto (tgt := 6) hx hb dX11_type_31 (by decide) ?_
      exact HD6_7 (j + 1) _ _ (by omega) hP hS _ (lv_sub hl [0, 2, 3, 1] rfl)
  have HD6_5 : ∀ (j : Nat) (H : Heap) (locs : List Loc), j ≤ 5 → va_P (dC, dI) vwCl (offW a g) H → va_S A s.heap H locs → ∀ (ls : Array Slot), lv_has ls 6 [(4, .int 16), (0, .ref (a 0)), (1, .long y), (3, .int (nI j))] → W p l e (headSpec wsX11_type ({ frames := 1, cells := 0, slots := 0, locals := 22 })).room s m ([.ref (a 0), .long y] : List Value).toArray below meth c H locs 0 0 Q (F0 m 6 ls []) := by
    intro j H locs hj hP hS ls hl
    refine lv_iload hx hb dX11_type_6 (lv_at hl 0 rfl) ?_
    refine lv_if_lt (tgt := 34) hx hb dX11_type_8 (by decide) (fun c_55 => absurd c_55 (by decide)) (fun c_55 => ?_)
    refine lv_iload_n hx hb dX11_type_11 rfl (lv_at hl 3 rfl) ?_
    refine lv_lload_n hx hb dX11_type_12 rfl (lv_at hl 2 rfl) ?_
    refine lv_iload hx hb dX11_type_13 (lv_at hl 0 rfl) ?_
    refine va_calli (va_runS (As := [.long y, .int 16]) (rest := [.int (nI j)]) ⟨hx, hb, hml, hown, hts⟩ (c_X11_byteOf l dC dI g (offW a g) y 16   H.size) (va_cwS 2 hts gX11_type_X11_byteOf rfl rfl rfl (by decide +kernel) ⟨Nat.le_of_ble_eq_true rfl, Nat.le_of_ble_eq_true rfl⟩) ⟨PG_blind, PG_call hK hG hS hP hD (A_all hD hA hS.1)⟩ rfl rfl hl.1 rfl (lv_room (Nat.le_of_ble_eq_true rfl)) dX11_type_15 ⟨Nat.le_of_ble_eq_true rfl, Nat.le_of_ble_eq_true rfl⟩) hS (fun q _ h => (A_all hD hA hS.1) q h) (A_all hD hA hS.1) (fun r_56 u_56 t_56 H_56 L_56 ht_56 hvm_56 hw_56 hB_56 hz_56 hk_56 hS => ?_)
    replace hB_56 := (show va_P (dC, dI) vwCl (offW a g) t_56.heap from hB_56)
    rw [ht_56] at hB_56
    have hP := hB_56
    obtain rfl : r_56 = byt y 16 := hw_56
    refine lv_if_eq (tgt := 25) hx hb dX11_type_18 (by decide) (fun c_57 => ?_) (fun c_57 => ?_)
    · refine lv_iconst (v := 0) hx hb dX11_type_25 (by decide) ?_
      refine lv_iadd hx hb dX11_type_26 ?_
      refine lv_topi (fun x_58 ex_58 => ?_)
      obtain rfl : x_58 = (nI j) := ex_58.trans (Int32.add_zero _)
      refine lv_istore_n (lv' := [(3, .int (nI j)), (4, .int 16), (0, .ref (a 0)), (1, .long y)]) hx hb dX11_type_27 rfl hl (by decide) rfl (fun ls hl => ?_)
      refine lv_iinc (v := 8) (lv' := [(4, .int 8), (3, .int (nI j)), (0, .ref (a 0)), (1, .long y)]) hx hb dX11_type_28 hl (k := 1) rfl (by decide) (by decide) rfl (fun ls hl => ?_)
      refine lv_goto (tgt := 6) hx hb dX11_type_31 (by decide) ?_
      exact HD6_6 j _ _ (by omega) hP hS _ (lv_sub hl [0, 2, 3, 1] rfl)
    · refine lv_iconst (v := 1) hx hb dX11_type_21 (by decide) ?_
      refine lv_goto (tgt := 26) hx hb dX11_type_22 (by decide) ?_
      refine lv_iadd hx hb dX11_type_26 ?_
      refine lv_topi (fun x_59 ex_59 => ?_)
      obtain rfl : x_59 = nI (j + 1) := ex_59.trans (nI_1 _)
      refine lv_istore_n (lv' := [(3, .int (nI (j + 1))), (4, .int 16), (0, .ref (a 0)), (1, .long y)]) hx hb dX11_type_27 rfl hl (by decide) rfl (fun ls hl => ?_)
      refine lv_iinc (v := 8) (lv' := [(4, .int 8), (3, .int (nI (j + 1))), (0, .ref (a 0)), (1, .long y)]) hx hb dX11_type_28 hl (k := 1) rfl (by decide) (by decide) rfl (fun ls hl => ?_)
      refine lv_goto (tgt := 6) hx hb dX11_type_31 (by decide) ?_
      exact HD6_6 (j + 1) _ _ (by omega) hP hS _ (lv_sub hl [0, 2, 3, 1] rfl)
  have HD6_4 : ∀ (j : Nat) (H : Heap) (locs : List Loc), j ≤ 4 → va_P (dC, dI) vwCl (offW a g) H → va_S A s.heap H locs → ∀ (ls : Array Slot), lv_has ls 6 [(4, .int 24), (0, .ref (a 0)), (1, .long y), (3, .int (nI j))] → W p l e (headSpec wsX11_type ({ frames := 1, cells := 0, slots := 0, locals := 22 })).room s m ([.ref (a 0), .long y] : List Value).toArray below meth c H locs 0 0 Q (F0 m 6 ls []) := by
    intro j H locs hj hP hS ls hl
    refine lv_iload hx hb dX11_type_6 (lv_at hl 0 rfl) ?_
    refine lv_if_lt (tgt := 34) hx hb dX11_type_8 (by decide) (fun c_60 => absurd c_60 (by decide)) (fun c_60 => ?_)
    refine lv_iload_n hx hb dX11_type_11 rfl (lv_at hl 3 rfl) ?_
    refine lv_lload_n hx hb dX11_type_12 rfl (lv_at hl 2 rfl) ?_
    refine lv_iload hx hb dX11_type_13 (lv_at hl 0 rfl) ?_
    refine va_calli (va_runS (As := [.long y, .int 24]) (rest := [.int (nI j)]) ⟨hx, hb, hml, hown, hts⟩ (c_X11_byteOf l dC dI g (offW a g) y 24   H.size) (va_cwS 2 hts gX11_type_X11_byteOf rfl rfl rfl (by decide +kernel) ⟨Nat.le_of_ble_eq_true rfl, Nat.le_of_ble_eq_true rfl⟩) ⟨PG_blind, PG_call hK hG hS hP hD (A_all hD hA hS.1)⟩ rfl rfl hl.1 rfl (lv_room (Nat.le_of_ble_eq_true rfl)) dX11_type_15 ⟨Nat.le_of_ble_eq_true rfl, Nat.le_of_ble_eq_true rfl⟩) hS (fun q _ h => (A_all hD hA hS.1) q h) (A_all hD hA hS.1) (fun r_61 u_61 t_61 H_61 L_61 ht_61 hvm_61 hw_61 hB_61 hz_61 hk_61 hS => ?_)
    replace hB_61 := (show va_P (dC, dI) vwCl (offW a g) t_61.heap from hB_61)
    rw [ht_61] at hB_61
    have hP := hB_61
    obtain rfl : r_61 = byt y 24 := hw_61
    refine lv_if_eq (tgt := 25) hx hb dX11_type_18 (by decide) (fun c_62 => ?_) (fun c_62 => ?_)
    · refine lv_iconst (v := 0) hx hb dX11_type_25 (by decide) ?_
      refine lv_iadd hx hb dX11_type_26 ?_
      refine lv_topi (fun x_63 ex_63 => ?_)
      obtain rfl : x_63 = (nI j) := ex_63.trans (Int32.add_zero _)
      refine lv_istore_n (lv' := [(3, .int (nI j)), (4, .int 24), (0, .ref (a 0)), (1, .long y)]) hx hb dX11_type_27 rfl hl (by decide) rfl (fun ls hl => ?_)
      refine lv_iinc (v := 16) (lv' := [(4, .int 16), (3, .int (nI j)), (0, .ref (a 0)), (1, .long y)]) hx hb dX11_type_28 hl (k := 1) rfl (by decide) (by decide) rfl (fun ls hl => ?_)
      refine lv_goto (tgt := 6) hx hb dX11_type_31 (by decide) ?_
      exact HD6_5 j _ _ (by omega) hP hS _ (lv_sub hl [0, 2, 3, 1] rfl)
    · refine lv_iconst (v := 1) hx hb dX11_type_21 (by decide) ?_
      refine lv_goto (tgt := 26) hx hb dX11_type_22 (by decide) ?_
      refine lv_iadd hx hb dX11_type_26 ?_
      refine lv_topi (fun x_64 ex_64 => ?_)
      obtain rfl : x_64 = nI (j + 1) := ex_64.trans (nI_1 _)
      refine lv_istore_n (lv' := [(3, .int (nI (j + 1))), (4, .int 24), (0, .ref (a 0)), (1, .long y)]) hx hb dX11_type_27 rfl hl (by decide) rfl (fun ls hl => ?_)
      refine lv_iinc (v := 16) (lv' := [(4, .int 16), (3, .int (nI (j + 1))), (0, .ref (a 0)), (1, .long y)]) hx hb dX11_type_28 hl (k := 1) rfl (by decide) (by decide) rfl (fun ls hl => ?_)
      refine lv_goto (tgt := 6) hx hb dX11_type_31 (by decide) ?_
      exact HD6_5 (j + 1) _ _ (by omega) hP hS _ (lv_sub hl [0, 2, 3, 1] rfl)
  have HD6_3 : ∀ (j : Nat) (H : Heap) (locs : List Loc), j ≤ 3 → va_P (dC, dI) vwCl (offW a g) H → va_S A s.heap H locs → ∀ (ls : Array Slot), lv_has ls 6 [(4, .int 32), (0, .ref (a 0)), (1, .long y), (3, .int (nI j))] → W p l e (headSpec wsX11_type ({ frames := 1, cells := 0, slots := 0, locals := 22 })).room s m ([.ref (a 0), .long y] : List Value).toArray below meth c H locs 0 0 Q (F0 m 6 ls []) := by
    intro j H locs hj hP hS ls hl
    refine lv_iload hx hb dX11_type_6 (lv_at hl 0 rfl) ?_
    refine lv_if_lt (tgt := 34) hx hb dX11_type_8 (by decide) (fun c_65 => absurd c_65 (by decide)) (fun c_65 => ?_)
    refine lv_iload_n hx hb dX11_type_11 rfl (lv_at hl 3 rfl) ?_
    refine lv_lload_n hx hb dX11_type_12 rfl (lv_at hl 2 rfl) ?_
    refine lv_iload hx hb dX11_type_13 (lv_at hl 0 rfl) ?_
    refine va_calli (va_runS (As := [.long y, .int 32]) (rest := [.int (nI j)]) ⟨hx, hb, hml, hown, hts⟩ (c_X11_byteOf l dC dI g (offW a g) y 32   H.size) (va_cwS 2 hts gX11_type_X11_byteOf rfl rfl rfl (by decide +kernel) ⟨Nat.le_of_ble_eq_true rfl, Nat.le_of_ble_eq_true rfl⟩) ⟨PG_blind, PG_call hK hG hS hP hD (A_all hD hA hS.1)⟩ rfl rfl hl.1 rfl (lv_room (Nat.le_of_ble_eq_true rfl)) dX11_type_15 ⟨Nat.le_of_ble_eq_true rfl, Nat.le_of_ble_eq_true rfl⟩) hS (fun q _ h => (A_all hD hA hS.1) q h) (A_all hD hA hS.1) (fun r_66 u_66 t_66 H_66 L_66 ht_66 hvm_66 hw_66 hB_66 hz_66 hk_66 hS => ?_)
    replace hB_66 := (show va_P (dC, dI) vwCl (offW a g) t_66.heap from hB_66)
    rw [ht_66] at hB_66
    have hP := hB_66
    obtain rfl : r_66 = byt y 32 := hw_66
    refine lv_if_eq (tgt := 25) hx hb dX11_type_18 (by decide) (fun c_67 => ?_) (fun c_67 => ?_)
    · refine lv_iconst (v := 0) hx hb dX11_type_25 (by decide) ?_
      refine lv_iadd hx hb dX11_type_26 ?_
      refine lv_topi (fun x_68 ex_68 => ?_)
      obtain rfl : x_68 = (nI j) := ex_68.trans (Int32.add_zero _)
      refine lv_istore_n (lv' := [(3, .int (nI j)), (4, .int 32), (0, .ref (a 0)), (1, .long y)]) hx hb dX11_type_27 rfl hl (by decide) rfl (fun ls hl => ?_)
      refine lv_iinc (v := 24) (lv' := [(4, .int 24), (3, .int (nI j)), (0, .ref (a 0)), (1, .long y)]) hx hb dX11_type_28 hl (k := 1) rfl (by decide) (by decide) rfl (fun ls hl => ?_)
      refine lv_goto (tgt := 6) hx hb dX11_type_31 (by decide) ?_
      exact HD6_4 j _ _ (by omega) hP hS _ (lv_sub hl [0, 2, 3, 1] rfl)
    · refine lv_iconst (v := 1) hx hb dX11_type_21 (by decide) ?_
      refine lv_goto (tgt := 26) hx hb dX11_type_22 (by decide) ?_
      refine lv_iadd hx hb dX11_type_26 ?_
      refine lv_topi (fun x_69 ex_69 => ?_)
      obtain rfl : x_69 = nI (j + 1) := ex_69.trans (nI_1 _)
      refine lv_istore_n (lv' := [(3, .int (nI (j + 1))), (4, .int 32), (0, .ref (a 0)), (1, .long y)]) hx hb dX11_type_27 rfl hl (by decide) rfl (fun ls hl => ?_)
      refine lv_iinc (v := 24) (lv' := [(4, .int 24), (3, .int (nI (j + 1))), (0, .ref (a 0)), (1, .long y)]) hx hb dX11_type_28 hl (k := 1) rfl (by decide) (by decide) rfl (fun ls hl => ?_)
      refine lv_goto (tgt := 6) hx hb dX11_type_31 (by decide) ?_
      exact HD6_4 (j + 1) _ _ (by omega) hP hS _ (lv_sub hl [0, 2, 3, 1] rfl)
  have HD6_2 : ∀ (j : Nat) (H : Heap) (locs : List Loc), j ≤ 2 → va_P (dC, dI) vwCl (offW a g) H → va_S A s.heap H locs → ∀ (ls : Array Slot), lv_has ls 6 [(4, .int 40), (0, .ref (a 0)), (1, .long y), (3, .int (nI j))] → W p l e (headSpec wsX11_type ({ frames := 1, cells := 0, slots := 0, locals := 22 })).room s m ([.ref (a 0), .long y] : List Value).toArray below meth c H locs 0 0 Q (F0 m 6 ls []) := by
    intro j H locs hj hP hS ls hl
    refine lv_iload hx hb dX11_type_6 (lv_at hl 0 rfl) ?_
    refine lv_if_lt (tgt := 34) hx hb dX11_type_8 (by decide) (fun c_70 => absurd c_70 (by decide)) (fun c_70 => ?_)
    refine lv_iload_n hx hb dX11_type_11 rfl (lv_at hl 3 rfl) ?_
    refine lv_lload_n hx hb dX11_type_12 rfl (lv_at hl 2 rfl) ?_
    refine lv_iload hx hb dX11_type_13 (lv_at hl 0 rfl) ?_
    refine va_calli (va_runS (As := [.long y, .int 40]) (rest := [.int (nI j)]) ⟨hx, hb, hml, hown, hts⟩ (c_X11_byteOf l dC dI g (offW a g) y 40   H.size) (va_cwS 2 hts gX11_type_X11_byteOf rfl rfl rfl (by decide +kernel) ⟨Nat.le_of_ble_eq_true rfl, Nat.le_of_ble_eq_true rfl⟩) ⟨PG_blind, PG_call hK hG hS hP hD (A_all hD hA hS.1)⟩ rfl rfl hl.1 rfl (lv_room (Nat.le_of_ble_eq_true rfl)) dX11_type_15 ⟨Nat.le_of_ble_eq_true rfl, Nat.le_of_ble_eq_true rfl⟩) hS (fun q _ h => (A_all hD hA hS.1) q h) (A_all hD hA hS.1) (fun r_71 u_71 t_71 H_71 L_71 ht_71 hvm_71 hw_71 hB_71 hz_71 hk_71 hS => ?_)
    replace hB_71 := (show va_P (dC, dI) vwCl (offW a g) t_71.heap from hB_71)
    rw [ht_71] at hB_71
    have hP := hB_71
    obtain rfl : r_71 = byt y 40 := hw_71
    refine lv_if_eq (tgt := 25) hx hb dX11_type_18 (by decide) (fun c_72 => ?_) (fun c_72 => ?_)
    · refine lv_iconst (v := 0) hx hb dX11_type_25 (by decide) ?_
      refine lv_iadd hx hb dX11_type_26 ?_
      refine lv_topi (fun x_73 ex_73 => ?_)
      obtain rfl : x_73 = (nI j) := ex_73.trans (Int32.add_zero _)
      refine lv_istore_n (lv' := [(3, .int (nI j)), (4, .int 40), (0, .ref (a 0)), (1, .long y)]) hx hb dX11_type_27 rfl hl (by decide) rfl (fun ls hl => ?_)
      refine lv_iinc (v := 32) (lv' := [(4, .int 32), (3, .int (nI j)), (0, .ref (a 0)), (1, .long y)]) hx hb dX11_type_28 hl (k := 1) rfl (by decide) (by decide) rfl (fun ls hl => ?_)
      refine lv_goto (tgt := 6) hx hb dX11_type_31 (by decide) ?_
      exact HD6_3 j _ _ (by omega) hP hS _ (lv_sub hl [0, 2, 3, 1] rfl)
    · refine lv_iconst (v := 1) hx hb dX11_type_21 (by decide) ?_
      refine lv_goto (tgt := 26) hx hb dX11_type_22 (by decide) ?_
      refine lv_iadd hx hb dX11_type_26 ?_
      refine lv_topi (fun x_74 ex_74 => ?_)
      obtain rfl : x_74 = nI (j + 1) := ex_74.trans (nI_1 _)
      refine lv_istore_n (lv' := [(3, .int (nI (j + 1))), (4, .int 40), (0, .ref (a 0)), (1, .long y)]) hx hb dX11_type_27 rfl hl (by decide) rfl (fun ls hl => ?_)
      refine lv_iinc (v := 32) (lv' := [(4, .int 32), (3, .int (nI (j + 1))), (0, .ref (a 0)), (1, .long y)]) hx hb dX11_type_28 hl (k := 1) rfl (by decide) (by decide) rfl (fun ls hl => ?_)
      refine lv_goto (tgt := 6) hx hb dX11_type_31 (by decide) ?_
      exact HD6_3 (j + 1) _ _ (by omega) hP hS _ (lv_sub hl [0, 2, 3, 1] rfl)
  have HD6_1 : ∀ (j : Nat) (H : Heap) (locs : List Loc), j ≤ 1 → va_P (dC, dI) vwCl (offW a g) H → va_S A s.heap H locs → ∀ (ls : Array Slot), lv_has ls 6 [(4, .int 48), (0, .ref (a 0)), (1, .long y), (3, .int (nI j))] → W p l e (headSpec wsX11_type ({ frames := 1, cells := 0, slots := 0, locals := 22 })).room s m ([.ref (a 0), .long y] : List Value).toArray below meth c H locs 0 0 Q (F0 m 6 ls []) := by
    intro j H locs hj hP hS ls hl
    refine lv_iload hx hb dX11_type_6 (lv_at hl 0 rfl) ?_
    refine lv_if_lt (tgt := 34) hx hb dX11_type_8 (by decide) (fun c_75 => absurd c_75 (by decide)) (fun c_75 => ?_)
    refine lv_iload_n hx hb dX11_type_11 rfl (lv_at hl 3 rfl) ?_
    refine lv_lload_n hx hb dX11_type_12 rfl (lv_at hl 2 rfl) ?_
    refine lv_iload hx hb dX11_type_13 (lv_at hl 0 rfl) ?_
    refine va_calli (va_runS (As := [.long y, .int 48]) (rest := [.int (nI j)]) ⟨hx, hb, hml, hown, hts⟩ (c_X11_byteOf l dC dI g (offW a g) y 48   H.size) (va_cwS 2 hts gX11_type_X11_byteOf rfl rfl rfl (by decide +kernel) ⟨Nat.le_of_ble_eq_true rfl, Nat.le_of_ble_eq_true rfl⟩) ⟨PG_blind, PG_call hK hG hS hP hD (A_all hD hA hS.1)⟩ rfl rfl hl.1 rfl (lv_room (Nat.le_of_ble_eq_true rfl)) dX11_type_15 ⟨Nat.le_of_ble_eq_true rfl, Nat.le_of_ble_eq_true rfl⟩) hS (fun q _ h => (A_all hD hA hS.1) q h) (A_all hD hA hS.1) (fun r_76 u_76 t_76 H_76 L_76 ht_76 hvm_76 hw_76 hB_76 hz_76 hk_76 hS => ?_)
    replace hB_76 := (show va_P (dC, dI) vwCl (offW a g) t_76.heap from hB_76)
    rw [ht_76] at hB_76
    have hP := hB_76
    obtain rfl : r_76 = byt y 48 := hw_76
    refine lv_if_eq (tgt := 25) hx hb dX11_type_18 (by decide) (fun c_77 => ?_) (fun c_77 => ?_)
    · refine lv_iconst (v := 0) hx hb dX11_type_25 (by decide) ?_
      refine lv_iadd hx hb dX11_type_26 ?_
      refine lv_topi (fun x_78 ex_78 => ?_)
      obtain rfl : x_78 = (nI j) := ex_78.trans (Int32.add_zero _)
      refine lv_istore_n (lv' := [(3, .int (nI j)), (4, .int 48), (0, .ref (a 0)), (1, .long y)]) hx hb dX11_type_27 rfl hl (by decide) rfl (fun ls hl => ?_)
      refine lv_iinc (v := 40) (lv' := [(4, .int 40), (3, .int (nI j)), (0, .ref (a 0)), (1, .long y)]) hx hb dX11_type_28 hl (k := 1) rfl (by decide) (by decide) rfl (fun ls hl => ?_)
      refine lv_goto (tgt := 6) hx hb dX11_type_31 (by decide) ?_
      exact HD6_2 j _ _ (by omega) hP hS _ (lv_sub hl [0, 2, 3, 1] rfl)
    · refine lv_iconst (v := 1) hx hb dX11_type_21 (by decide) ?_
      refine lv_goto (tgt := 26) hx hb dX11_type_22 (by decide) ?_
      refine lv_iadd hx hb dX11_type_26 ?_
      refine lv_topi (fun x_79 ex_79 => ?_)
      obtain rfl : x_79 = nI (j + 1) := ex_79.trans (nI_1 _)
      refine lv_istore_n (lv' := [(3, .int (nI (j + 1))), (4, .int 48), (0, .ref (a 0)), (1, .long y)]) hx hb dX11_type_27 rfl hl (by decide) rfl (fun ls hl => ?_)
      refine lv_iinc (v := 40) (lv' := [(4, .int 40), (3, .int (nI (j + 1))), (0, .ref (a 0)), (1, .long y)]) hx hb dX11_type_28 hl (k := 1) rfl (by decide) (by decide) rfl (fun ls hl => ?_)
      refine lv_goto (tgt := 6) hx hb dX11_type_31 (by decide) ?_
      exact HD6_2 (j + 1) _ _ (by omega) hP hS _ (lv_sub hl [0, 2, 3, 1] rfl)
  have HD6_0 : ∀ (j : Nat) (H : Heap) (locs : List Loc), j ≤ 0 → va_P (dC, dI) vwCl (offW a g) H → va_S A s.heap H locs → ∀ (ls : Array Slot), lv_has ls 6 [(4, .int 56), (0, .ref (a 0)), (1, .long y), (3, .int (nI j))] → W p l e (headSpec wsX11_type ({ frames := 1, cells := 0, slots := 0, locals := 22 })).room s m ([.ref (a 0), .long y] : List Value).toArray below meth c H locs 0 0 Q (F0 m 6 ls []) := by
    intro j H locs hj hP hS ls hl
    refine lv_iload hx hb dX11_type_6 (lv_at hl 0 rfl) ?_
    refine lv_if_lt (tgt := 34) hx hb dX11_type_8 (by decide) (fun c_80 => absurd c_80 (by decide)) (fun c_80 => ?_)
    refine lv_iload_n hx hb dX11_type_11 rfl (lv_at hl 3 rfl) ?_
    refine lv_lload_n hx hb dX11_type_12 rfl (lv_at hl 2 rfl) ?_
    refine lv_iload hx hb dX11_type_13 (lv_at hl 0 rfl) ?_
    refine va_calli (va_runS (As := [.long y, .int 56]) (rest := [.int (nI j)]) ⟨hx, hb, hml, hown, hts⟩ (c_X11_byteOf l dC dI g (offW a g) y 56   H.size) (va_cwS 2 hts gX11_type_X11_byteOf rfl rfl rfl (by decide +kernel) ⟨Nat.le_of_ble_eq_true rfl, Nat.le_of_ble_eq_true rfl⟩) ⟨PG_blind, PG_call hK hG hS hP hD (A_all hD hA hS.1)⟩ rfl rfl hl.1 rfl (lv_room (Nat.le_of_ble_eq_true rfl)) dX11_type_15 ⟨Nat.le_of_ble_eq_true rfl, Nat.le_of_ble_eq_true rfl⟩) hS (fun q _ h => (A_all hD hA hS.1) q h) (A_all hD hA hS.1) (fun r_81 u_81 t_81 H_81 L_81 ht_81 hvm_81 hw_81 hB_81 hz_81 hk_81 hS => ?_)
    replace hB_81 := (show va_P (dC, dI) vwCl (offW a g) t_81.heap from hB_81)
    rw [ht_81] at hB_81
    have hP := hB_81
    obtain rfl : r_81 = byt y 56 := hw_81
    refine lv_if_eq (tgt := 25) hx hb dX11_type_18 (by decide) (fun c_82 => ?_) (fun c_82 => ?_)
    · refine lv_iconst (v := 0) hx hb dX11_type_25 (by decide) ?_
      refine lv_iadd hx hb dX11_type_26 ?_
      refine lv_topi (fun x_83 ex_83 => ?_)
      obtain rfl : x_83 = (nI j) := ex_83.trans (Int32.add_zero _)
      refine lv_istore_n (lv' := [(3, .int (nI j)), (4, .int 56), (0, .ref (a 0)), (1, .long y)]) hx hb dX11_type_27 rfl hl (by decide) rfl (fun ls hl => ?_)
      refine lv_iinc (v := 48) (lv' := [(4, .int 48), (3, .int (nI j)), (0, .ref (a 0)), (1, .long y)]) hx hb dX11_type_28 hl (k := 1) rfl (by decide) (by decide) rfl (fun ls hl => ?_)
      refine lv_goto (tgt := 6) hx hb dX11_type_31 (by decide) ?_
      exact HD6_1 j _ _ (by omega) hP hS _ (lv_sub hl [0, 2, 3, 1] rfl)
    · refine lv_iconst (v := 1) hx hb dX11_type_21 (by decide) ?_
      refine lv_goto (tgt := 26) hx hb dX11_type_22 (by decide) ?_
      refine lv_iadd hx hb dX11_type_26 ?_
      refine lv_topi (fun x_84 ex_84 => ?_)
      obtain rfl : x_84 = nI (j + 1) := ex_84.trans (nI_1 _)
      refine lv_istore_n (lv' := [(3, .int (nI (j + 1))), (4, .int 56), (0, .ref (a 0)), (1, .long y)]) hx hb dX11_type_27 rfl hl (by decide) rfl (fun ls hl => ?_)
      refine lv_iinc (v := 48) (lv' := [(4, .int 48), (3, .int (nI (j + 1))), (0, .ref (a 0)), (1, .long y)]) hx hb dX11_type_28 hl (k := 1) rfl (by decide) (by decide) rfl (fun ls hl => ?_)
      refine lv_goto (tgt := 6) hx hb dX11_type_31 (by decide) ?_
      exact HD6_1 (j + 1) _ _ (by omega) hP hS _ (lv_sub hl [0, 2, 3, 1] rfl)
  exact HD6_0 0 _ _ (by omega) hP hS _ (lv_sub hl [0, 2, 3, 1] rfl)
