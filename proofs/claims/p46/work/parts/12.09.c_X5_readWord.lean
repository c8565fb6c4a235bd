theorem dX5_readWord_0 : decode cX5_readWord 0 = .ok (.aload_n 0, 1) := by decide +kernel
theorem dX5_readWord_1 : decode cX5_readWord 1 = .ok (.aload_n 0, 1) := by decide +kernel
theorem dX5_readWord_2 : decode cX5_readWord 2 = .ok (.getfield 36, 3) := by decide +kernel
theorem dX5_readWord_5 : decode cX5_readWord 5 = .ok (.putfield 33, 3) := by decide +kernel
theorem dX5_readWord_51 : decode cX5_readWord 51 = .ok (.aload_n 0, 1) := by decide +kernel
theorem dX5_readWord_52 : decode cX5_readWord 52 = .ok (.aload_n 0, 1) := by decide +kernel
theorem dX5_readWord_53 : decode cX5_readWord 53 = .ok (.getfield 12, 3) := by decide +kernel
theorem dX5_readWord_56 : decode cX5_readWord 56 = .ok (.aload_n 0, 1) := by decide +kernel
theorem dX5_readWord_57 : decode cX5_readWord 57 = .ok (.getfield 33, 3) := by decide +kernel
theorem dX5_readWord_60 : decode cX5_readWord 60 = .ok (.invokevirtual 156, 3) := by decide +kernel
theorem dX5_readWord_63 : decode cX5_readWord 63 = .ok (.invokestatic 169, 3) := by decide +kernel
theorem dX5_readWord_66 : decode cX5_readWord 66 = .ok (.putfield 29, 3) := by decide +kernel
theorem dX5_readWord_69 : decode cX5_readWord 69 = .ok (.aload_n 0, 1) := by decide +kernel
theorem dX5_readWord_70 : decode cX5_readWord 70 = .ok (.aload_n 0, 1) := by decide +kernel
theorem dX5_readWord_71 : decode cX5_readWord 71 = .ok (.getfield 33, 3) := by decide +kernel
theorem dX5_readWord_74 : decode cX5_readWord 74 = .ok (.putfield 36, 3) := by decide +kernel
theorem dX5_readWord_77 : decode cX5_readWord 77 = .ok (.aload_n 0, 1) := by decide +kernel
theorem dX5_readWord_78 : decode cX5_readWord 78 = .ok (.getfield 29, 3) := by decide +kernel
theorem dX5_readWord_81 : decode cX5_readWord 81 = .ok (.iconst 1, 1) := by decide +kernel
theorem dX5_readWord_158 : decode cX5_readWord 158 = .ok (.return_, 1) := by decide +kernel
theorem dX5_readWord_93 : decode cX5_readWord 93 = .ok (.aload_n 0, 1) := by decide +kernel
theorem dX5_readWord_94 : decode cX5_readWord 94 = .ok (.getfield 36, 3) := by decide +kernel
theorem dX5_readWord_97 : decode cX5_readWord 97 = .ok (.aload_n 0, 1) := by decide +kernel
theorem dX5_readWord_98 : decode cX5_readWord 98 = .ok (.getfield 12, 3) := by decide +kernel
theorem dX5_readWord_101 : decode cX5_readWord 101 = .ok (.getfield 166, 3) := by decide +kernel
theorem dX5_readWord_104 : decode cX5_readWord 104 = .ok (.if_icmp .ge 54, 3) := by decide +kernel
theorem dX5_readWord_107 : decode cX5_readWord 107 = .ok (.aload_n 0, 1) := by decide +kernel
theorem dX5_readWord_108 : decode cX5_readWord 108 = .ok (.getfield 12, 3) := by decide +kernel
theorem dX5_readWord_111 : decode cX5_readWord 111 = .ok (.aload_n 0, 1) := by decide +kernel
theorem dX5_readWord_112 : decode cX5_readWord 112 = .ok (.getfield 36, 3) := by decide +kernel
theorem dX5_readWord_115 : decode cX5_readWord 115 = .ok (.invokevirtual 156, 3) := by decide +kernel
theorem dX5_readWord_118 : decode cX5_readWord 118 = .ok (.invokestatic 169, 3) := by decide +kernel
theorem dX5_readWord_121 : decode cX5_readWord 121 = .ok (.aload_n 0, 1) := by decide +kernel
theorem dX5_readWord_122 : decode cX5_readWord 122 = .ok (.getfield 29, 3) := by decide +kernel
theorem dX5_readWord_125 : decode cX5_readWord 125 = .ok (.if_icmp .ne 33, 3) := by decide +kernel
theorem dX5_readWord_128 : decode cX5_readWord 128 = .ok (.aload_n 0, 1) := by decide +kernel
theorem dX5_readWord_129 : decode cX5_readWord 129 = .ok (.dup, 1) := by decide +kernel
theorem dX5_readWord_130 : decode cX5_readWord 130 = .ok (.getfield 36, 3) := by decide +kernel
theorem dX5_readWord_133 : decode cX5_readWord 133 = .ok (.iconst 1, 1) := by decide +kernel
theorem dX5_readWord_134 : decode cX5_readWord 134 = .ok (.iadd, 1) := by decide +kernel
theorem dX5_readWord_135 : decode cX5_readWord 135 = .ok (.putfield 36, 3) := by decide +kernel
theorem dX5_readWord_138 : decode cX5_readWord 138 = .ok (.goto (-45), 3) := by decide +kernel
theorem dX5_readWord_82 : decode cX5_readWord 82 = .ok (.if_icmp .eq 11, 3) := by decide +kernel
theorem dX5_readWord_85 : decode cX5_readWord 85 = .ok (.aload_n 0, 1) := by decide +kernel
theorem dX5_readWord_86 : decode cX5_readWord 86 = .ok (.getfield 29, 3) := by decide +kernel
theorem dX5_readWord_89 : decode cX5_readWord 89 = .ok (.iconst 2, 1) := by decide +kernel
theorem dX5_readWord_90 : decode cX5_readWord 90 = .ok (.if_icmp .ne 51, 3) := by decide +kernel
theorem dX5_readWord_141 : decode cX5_readWord 141 = .ok (.aload_n 0, 1) := by decide +kernel
theorem dX5_readWord_142 : decode cX5_readWord 142 = .ok (.getfield 29, 3) := by decide +kernel
theorem dX5_readWord_145 : decode cX5_readWord 145 = .ok (.ifCond .eq 13, 3) := by decide +kernel
theorem dX5_readWord_148 : decode cX5_readWord 148 = .ok (.aload_n 0, 1) := by decide +kernel
theorem dX5_readWord_149 : decode cX5_readWord 149 = .ok (.dup, 1) := by decide +kernel
theorem dX5_readWord_150 : decode cX5_readWord 150 = .ok (.getfield 36, 3) := by decide +kernel
theorem dX5_readWord_153 : decode cX5_readWord 153 = .ok (.iconst 1, 1) := by decide +kernel
theorem dX5_readWord_154 : decode cX5_readWord 154 = .ok (.iadd, 1) := by decide +kernel
theorem dX5_readWord_155 : decode cX5_readWord 155 = .ok (.putfield 36, 3) := by decide +kernel
theorem dX5_readWord_8 : decode cX5_readWord 8 = .ok (.aload_n 0, 1) := by decide +kernel
theorem dX5_readWord_9 : decode cX5_readWord 9 = .ok (.getfield 33, 3) := by decide +kernel
theorem dX5_readWord_12 : decode cX5_readWord 12 = .ok (.aload_n 0, 1) := by decide +kernel
theorem dX5_readWord_13 : decode cX5_readWord 13 = .ok (.getfield 12, 3) := by decide +kernel
theorem dX5_readWord_16 : decode cX5_readWord 16 = .ok (.getfield 166, 3) := by decide +kernel
theorem dX5_readWord_19 : decode cX5_readWord 19 = .ok (.if_icmp .ge 32, 3) := by decide +kernel
theorem dX5_readWord_22 : decode cX5_readWord 22 = .ok (.aload_n 0, 1) := by decide +kernel
theorem dX5_readWord_23 : decode cX5_readWord 23 = .ok (.getfield 12, 3) := by decide +kernel
theorem dX5_readWord_26 : decode cX5_readWord 26 = .ok (.aload_n 0, 1) := by decide +kernel
theorem dX5_readWord_27 : decode cX5_readWord 27 = .ok (.getfield 33, 3) := by decide +kernel
theorem dX5_readWord_30 : decode cX5_readWord 30 = .ok (.invokevirtual 156, 3) := by decide +kernel
theorem dX5_readWord_33 : decode cX5_readWord 33 = .ok (.bipush 32, 2) := by decide +kernel
theorem dX5_readWord_35 : decode cX5_readWord 35 = .ok (.if_icmp .ne 16, 3) := by decide +kernel
theorem dX5_readWord_38 : decode cX5_readWord 38 = .ok (.aload_n 0, 1) := by decide +kernel
theorem dX5_readWord_39 : decode cX5_readWord 39 = .ok (.dup, 1) := by decide +kernel
theorem dX5_readWord_40 : decode cX5_readWord 40 = .ok (.getfield 33, 3) := by decide +kernel
theorem dX5_readWord_43 : decode cX5_readWord 43 = .ok (.iconst 1, 1) := by decide +kernel
theorem dX5_readWord_44 : decode cX5_readWord 44 = .ok (.iadd, 1) := by decide +kernel
theorem dX5_readWord_45 : decode cX5_readWord 45 = .ok (.putfield 33, 3) := by decide +kernel
theorem dX5_readWord_48 : decode cX5_readWord 48 = .ok (.goto (-40), 3) := by decide +kernel
abbrev Wa_X5_readWord (g : Nat → ClassId) (a_this : Nat) (a_text : Nat) (a_operands : Nat) (a_told : Nat) (wordKind : Int32) (wordPlace : Int32) (wordEnd : Int32) (number : Int32) (statementPlace : Int32) (action : Int32) (how : Int32) (isLast : Bool) (faultKind : Int32) (faultPlace : Int32) (a_text_bytes : Nat) (text_size : Int32) (text_bytes : Nat → Int32) : va_W := [(a_this, .inr (7, [.ref a_text, .ref a_operands, .ref a_told, .int wordKind, .int wordPlace, .int wordEnd, .int number, .int statementPlace, .int action, .int how, .int (b2i isLast), .int faultKind, .int faultPlace])), (a_text, .inr (12, [.ref a_text_bytes, .int text_size])), (a_text_bytes, .inl (g 0, 160, .inl text_bytes))]
abbrev Wb_X5_readWord (g : Nat → ClassId) (a_this : Nat) (a_text : Nat) (a_operands : Nat) (a_told : Nat) (number : Int32) (statementPlace : Int32) (action : Int32) (how : Int32) (isLast : Bool) (faultKind : Int32) (faultPlace : Int32) (a_text_bytes : Nat) (text_size : Int32) (text_bytes : Nat → Int32) (u : Int32 × Int32 × Int32 × Unit) : va_W := [(a_this, .inr (7, [.ref a_text, .ref a_operands, .ref a_told, .int u.1, .int u.2.1, .int u.2.2.1, .int number, .int statementPlace, .int action, .int how, .int (b2i isLast), .int faultKind, .int faultPlace])), (a_text, .inr (12, [.ref a_text_bytes, .int text_size])), (a_text_bytes, .inl (g 0, 160, .inl text_bytes))]
set_option maxHeartbeats 8000000 in
set_option maxRecDepth 100000 in
theorem c_X5_readWord (l : Launch) (dC : Nat → ClassId) (dI : Nat → Nat → Nat) (g : Nat → ClassId) (a_this : Nat) (a_text : Nat) (a_operands : Nat) (a_told : Nat) (wordKind : Int32) (wordPlace : Int32) (wordEnd : Int32) (number : Int32) (statementPlace : Int32) (action : Int32) (how : Int32) (isLast : Bool) (faultKind : Int32) (faultPlace : Int32) (a_text_bytes : Nat) (text_size : Int32) (text_bytes : Nat → Int32) (Q : Int32 → Int32 → Int32 → Prop) (hw : wp_X5_readWord wordEnd text_size text_bytes Q) (sz : Nat) : Met l yX5_readWord wqX5_readWord ({ frames := 1, cells := 0, slots := 0, locals := 21 }) (va_Pc [.ref a_this] (PG (dC, dI) g (Wa_X5_readWord g a_this a_text a_operands a_told wordKind wordPlace wordEnd number statementPlace action how isLast faultKind faultPlace a_text_bytes text_size text_bytes) sz)) (va_Qv (fun (u : Int32 × Int32 × Int32 × Unit) => Q u.1 u.2.1 u.2.2.1) (fun (u : Int32 × Int32 × Int32 × Unit) t9 => va_P (dC, dI) vwCl (Wb_X5_readWord g a_this a_text a_operands a_told number statementPlace action how isLast faultKind faultPlace a_text_bytes text_size text_bytes u) t9.heap ∧ va_D (va_A (Wa_X5_readWord g a_this a_text a_operands a_told wordKind wordPlace wordEnd number statementPlace action how isLast faultKind faultPlace a_text_bytes text_size text_bytes) sz) (Wb_X5_readWord g a_this a_text a_operands a_told number statementPlace action how isLast faultKind faultPlace a_text_bytes text_size text_bytes u)) (va_A (Wa_X5_readWord g a_this a_text a_operands a_told wordKind wordPlace wordEnd number statementPlace action how isLast faultKind faultPlace a_text_bytes text_size text_bytes) sz)) 0 0 (va_A (Wa_X5_readWord g a_this a_text a_operands a_told wordKind wordPlace wordEnd number statementPlace action how isLast faultKind faultPlace a_text_bytes text_size text_bytes) sz) := by
  refine Met.ofW (cc := cX5_readWord) (maxL := 1) (ret := none) (by decide) rfl ?_
  intro p e s m args below meth c s₁ B hml hv
  obtain ⟨rfl, hsz, hP, hK, hD0, hG⟩ := hv
  have hx := B.exec
  have hb := B.bytes
  have hr := B.returns
  have hts := atoms_spec (ws := wqX5_readWord) B.pre
  have hown : s.vm.findClass RX5 = some m.cls := findClass_of_methodNamed B.named
  have hlocks := B.notSynchronized
  subst hsz
  have hD := hD0.self (sz := s.heap.size)
  generalize hAe : va_A (Wa_X5_readWord g a_this a_text a_operands a_told wordKind wordPlace wordEnd number statementPlace action how isLast faultKind faultPlace a_text_bytes text_size text_bytes) s.heap.size = A at hD hG ⊢
  have hA : ∀ q : Nat, s.heap.size ≤ q → A q := fun q h => by rw [← hAe]; exact Or.inr h
  have hS : va_S A s.heap s.heap [] := va_S.rf
  have hl := lv_entry ([.ref a_this]) (n := 1) (Nat.le_of_ble_eq_true rfl)
  rw [lg_entry_eq]
  generalize (lg_sl ([.ref a_this]) ++ List.replicate (1 - (lg_sl ([.ref a_this])).length) Slot.unset).toArray = ls at hl ⊢
  have hl : lv_has ls 1 [(0, .ref a_this)] := hl
  unfold wp_X5_readWord at hw
  have hf36 := hts (Cond.fieldLink RX5 36 "RunmergeOffice$Reader" "wordEnd" "I") (aw_l aw_2_85)
  have hiX5 : ∀ w ∈ u_ws RX5 TX5 13, w ∈ wqX5_readWord := fun w h => aw_l (aw_wsX50 w h)
  have hf33 := hts (Cond.fieldLink RX5 33 "RunmergeOffice$Reader" "wordPlace" "I") (aw_l aw_2_84)
  have hf12 := hts (Cond.fieldLink RX5 12 "RunmergeOffice$Reader" "text" "LRunmergeOffice$Text;") (aw_l aw_2_78)
  have hf29 := hts (Cond.fieldLink RX5 29 "RunmergeOffice$Reader" "wordKind" "I") (aw_l aw_2_83)
  have hiX10 : ∀ w ∈ u_ws RX10 TX10 2, w ∈ wqX5_readWord := fun w h => aw_l (aw_wsX100 w h)
  refine lv_aload_n hx hb dX5_readWord_0 rfl (lv_at hl 0 rfl) ?_
  refine lv_aload_n hx hb dX5_readWord_1 rfl (lv_at hl 0 rfl) ?_
  refine va_get (D := (dC, dI)) (ci := 7) (v := .int wordEnd) (C := RX5) (T := TX5) (N := 13) hx hb hts hiX5 hown hK hP 0 rfl rfl 5 (by decide) hf36 (fun _ h9 => h9) rfl dX5_readWord_2 ?_
  refine va_put (D := (dC, dI)) (ci := 7) (v := .int wordEnd) (ty := .int) (C := RX5) (T := TX5) (N := 13) hx hb hts hiX5 tyX5 tyX5_ok nmX5 hown hK hP hD hS 0 rfl rfl 4 (by decide) hf33 (fun _ h9 => h9) rfl (by decide +kernel) rfl rfl (Nat.le_of_ble_eq_true rfl) dX5_readWord_5 (fun H_1 L_2 hP hD hS => ?_)
  have hP : va_P (dC, dI) vwCl [(a_this, .inr (7, [.ref a_text, .ref a_operands, .ref a_told, .int wordKind, .int wordEnd, .int wordEnd, .int number, .int statementPlace, .int action, .int how, .int (b2i isLast), .int faultKind, .int faultPlace])), (a_text, .inr (12, [.ref a_text_bytes, .int text_size])), (a_text_bytes, .inl (g 0, 160, .inl text_bytes))] H_1 := hP
  have hD : va_D A [(a_this, .inr (7, [.ref a_text, .ref a_operands, .ref a_told, .int wordKind, .int wordEnd, .int wordEnd, .int number, .int statementPlace, .int action, .int how, .int (b2i isLast), .int faultKind, .int faultPlace])), (a_text, .inr (12, [.ref a_text_bytes, .int text_size])), (a_text_bytes, .inl (g 0, 160, .inl text_bytes))] := hD
  refine W_abs (fun QM hQM => ?_)
  have EX8_51 : ∀ (wordPlace_4 : Int32) (H : Heap) (locs : List Loc), (wx_X5_readWord_8_51 text_size text_bytes Q) wordPlace_4 → va_P (dC, dI) vwCl [(a_this, .inr (7, [.ref a_text, .ref a_operands, .ref a_told, .int wordKind, .int wordPlace_4, .int wordEnd, .int number, .int statementPlace, .int action, .int how, .int (b2i isLast), .int faultKind, .int faultPlace])), (a_text, .inr (12, [.ref a_text_bytes, .int text_size])), (a_text_bytes, .inl (g 0, 160, .inl text_bytes))] H → va_D A [(a_this, .inr (7, [.ref a_text, .ref a_operands, .ref a_told, .int wordKind, .int wordPlace_4, .int wordEnd, .int number, .int statementPlace, .int action, .int how, .int (b2i isLast), .int faultKind, .int faultPlace])), (a_text, .inr (12, [.ref a_text_bytes, .int text_size])), (a_text_bytes, .inl (g 0, 160, .inl text_bytes))] → va_S A s.heap H locs → ∀ (ls : Array Slot), lv_has ls 1 [(0, .ref a_this)] → W p l e (headSpec wqX5_readWord ({ frames := 1, cells := 0, slots := 0, locals := 21 })).room s m ([.ref a_this] : List Value).toArray below meth c H locs 0 0 QM (F0 m 51 ls []) := by
    intro wordPlace_4 H locs hw hP hD hS ls hl
    refine lv_aload_n hx hb dX5_readWord_51 rfl (lv_at hl 0 rfl) ?_
    refine lv_aload_n hx hb dX5_readWord_52 rfl (lv_at hl 0 rfl) ?_
    refine va_get (D := (dC, dI)) (ci := 7) (v := .ref a_text) (C := RX5) (T := TX5) (N := 13) hx hb hts hiX5 hown hK hP 0 rfl rfl 0 (by decide) hf12 (fun _ h9 => h9) rfl dX5_readWord_53 ?_
    refine lv_aload_n hx hb dX5_readWord_56 rfl (lv_at hl 0 rfl) ?_
    refine va_get (D := (dC, dI)) (ci := 7) (v := .int wordPlace_4) (C := RX5) (T := TX5) (N := 13) hx hb hts hiX5 hown hK hP 0 rfl rfl 4 (by decide) hf33 (fun _ h9 => h9) rfl dX5_readWord_57 ?_
    refine va_calli (va_runV (As := [.int wordPlace_4]) (rest := [.ref a_this]) ⟨hx, hb, hml, hown, hts⟩ (c_X10_byteAt l dC dI g (Wd := [(a_this, .inr (7, [.ref a_text, .ref a_operands, .ref a_told, .int wordKind, .int wordPlace_4, .int wordEnd, .int number, .int statementPlace, .int action, .int how, .int (b2i isLast), .int faultKind, .int faultPlace])), (a_text, .inr (12, [.ref a_text_bytes, .int text_size])), (a_text_bytes, .inl (g 0, 160, .inl text_bytes))]) (a_this := a_text) (a_bytes := a_text_bytes) (size := text_size) (bytes := text_bytes) (place := wordPlace_4) (k_this := 1) (w_this := rfl) (k_bytes := 2) (w_bytes := rfl) (hw := hw) (sz := H.size)) (cwV 1 hts (gqV aw_5_64 aw_5_65 aw_5_66 aw_1_11 aw_5_67) rfl rfl rfl (by decide +kernel) ⟨Nat.le_of_ble_eq_true rfl, Nat.le_of_ble_eq_true rfl⟩) ⟨PG_blind, va_recv hK hP (ci := 12) (q0 := 1) rfl rfl, PG_call hK hG hS hP hD (A_all hD hA hS.1)⟩ rfl rfl hl.1 rfl (lv_room (Nat.le_of_ble_eq_true rfl)) dX5_readWord_60 ⟨Nat.le_of_ble_eq_true rfl, Nat.le_of_ble_eq_true rfl⟩) hS (fun q _ h => (A_all hD hA hS.1) q h) (A_all hD hA hS.1) (fun r_5 u_5 t_5 H_5 L_5 ht_5 hvm_5 hw_5 hB_5 hz_5 hk_5 hS => ?_)
    rw [ht_5] at hB_5
    have hP : va_P (dC, dI) vwCl [(a_this, .inr (7, [.ref a_text, .ref a_operands, .ref a_told, .int wordKind, .int wordPlace_4, .int wordEnd, .int number, .int statementPlace, .int action, .int how, .int (b2i isLast), .int faultKind, .int faultPlace])), (a_text, .inr (12, [.ref a_text_bytes, .int text_size])), (a_text_bytes, .inl (g 0, 160, .inl text_bytes))] H_5 := hB_5
    have hw := hw_5
    refine va_calli (va_runS (As := [.int r_5]) (rest := [.ref a_this]) ⟨hx, hb, hml, hown, hts⟩ (c_X5_kindOf l dC dI g (Wd := [(a_this, .inr (7, [.ref a_text, .ref a_operands, .ref a_told, .int wordKind, .int wordPlace_4, .int wordEnd, .int number, .int statementPlace, .int action, .int how, .int (b2i isLast), .int faultKind, .int faultPlace])), (a_text, .inr (12, [.ref a_text_bytes, .int text_size])), (a_text_bytes, .inl (g 0, 160, .inl text_bytes))]) (one := r_5) (hw := hw) (sz := H_5.size)) (va_cwS 1 hts (gqS aw_5_68 aw_5_69 aw_1_10 aw_5_70) rfl rfl rfl (by decide +kernel) ⟨Nat.le_of_ble_eq_true rfl, Nat.le_of_ble_eq_true rfl⟩) ⟨PG_blind, PG_call hK hG hS hP hD (A_all hD hA hS.1)⟩ rfl rfl hl.1 rfl (lv_room (Nat.le_of_ble_eq_true rfl)) dX5_readWord_63 ⟨Nat.le_of_ble_eq_true rfl, Nat.le_of_ble_eq_true rfl⟩) hS (fun q _ h => (A_all hD hA hS.1) q h) (A_all hD hA hS.1) (fun r_6 u_6 t_6 H_6 L_6 ht_6 hvm_6 hw_6 hB_6 hz_6 hk_6 hS => ?_)
    rw [ht_6] at hB_6
    have hP : va_P (dC, dI) vwCl [(a_this, .inr (7, [.ref a_text, .ref a_operands, .ref a_told, .int wordKind, .int wordPlace_4, .int wordEnd, .int number, .int statementPlace, .int action, .int how, .int (b2i isLast), .int faultKind, .int faultPlace])), (a_text, .inr (12, [.ref a_text_bytes, .int text_size])), (a_text_bytes, .inl (g 0, 160, .inl text_bytes))] H_6 := hB_6
    have hw := hw_6
    refine va_put (D := (dC, dI)) (ci := 7) (v := .int r_6) (ty := .int) (C := RX5) (T := TX5) (N := 13) hx hb hts hiX5 tyX5 tyX5_ok nmX5 hown hK hP hD hS 0 rfl rfl 3 (by decide) hf29 (fun _ h9 => h9) rfl (by decide +kernel) rfl rfl (Nat.le_of_ble_eq_true rfl) dX5_readWord_66 (fun H_7 L_8 hP hD hS => ?_)
    have hP : va_P (dC, dI) vwCl [(a_this, .inr (7, [.ref a_text, .ref a_operands, .ref a_told, .int r_6, .int wordPlace_4, .int wordEnd, .int number, .int statementPlace, .int action, .int how, .int (b2i isLast), .int faultKind, .int faultPlace])), (a_text, .inr (12, [.ref a_text_bytes, .int text_size])), (a_text_bytes, .inl (g 0, 160, .inl text_bytes))] H_7 := hP
    have hD : va_D A [(a_this, .inr (7, [.ref a_text, .ref a_operands, .ref a_told, .int r_6, .int wordPlace_4, .int wordEnd, .int number, .int statementPlace, .int action, .int how, .int (b2i isLast), .int faultKind, .int faultPlace])), (a_text, .inr (12, [.ref a_text_bytes, .int text_size])), (a_text_bytes, .inl (g 0, 160, .inl text_bytes))] := hD
    refine lv_aload_n hx hb dX5_readWord_69 rfl (lv_at hl 0 rfl) ?_
    refine lv_aload_n hx hb dX5_readWord_70 rfl (lv_at hl 0 rfl) ?_
    refine va_get (D := (dC, dI)) (ci := 7) (v := .int wordPlace_4) (C := RX5) (T := TX5) (N := 13) hx hb hts hiX5 hown hK hP 0 rfl rfl 4 (by decide) hf33 (fun _ h9 => h9) rfl dX5_readWord_71 ?_
    refine va_put (D := (dC, dI)) (ci := 7) (v := .int wordPlace_4) (ty := .int) (C := RX5) (T := TX5) (N := 13) hx hb hts hiX5 tyX5 tyX5_ok nmX5 hown hK hP hD hS 0 rfl rfl 5 (by decide) hf36 (fun _ h9 => h9) rfl (by decide +kernel) rfl rfl (Nat.le_of_ble_eq_true rfl) dX5_readWord_74 (fun H_9 L_10 hP hD hS => ?_)
    have hP : va_P (dC, dI) vwCl [(a_this, .inr (7, [.ref a_text, .ref a_operands, .ref a_told, .int r_6, .int wordPlace_4, .int wordPlace_4, .int number, .int statementPlace, .int action, .int how, .int (b2i isLast), .int faultKind, .int faultPlace])), (a_text, .inr (12, [.ref a_text_bytes, .int text_size])), (a_text_bytes, .inl (g 0, 160, .inl text_bytes))] H_9 := hP
    have hD : va_D A [(a_this, .inr (7, [.ref a_text, .ref a_operands, .ref a_told, .int r_6, .int wordPlace_4, .int wordPlace_4, .int number, .int statementPlace, .int action, .int how, .int (b2i isLast), .int faultKind, .int faultPlace])), (a_text, .inr (12, [.ref a_text_bytes, .int text_size])), (a_text_bytes, .inl (g 0, 160, .inl text_bytes))] := hD
    refine lv_aload_n hx hb dX5_readWord_77 rfl (lv_at hl 0 rfl) ?_
    refine va_get (D := (dC, dI)) (ci := 7) (v := .int r_6) (C := RX5) (T := TX5) (N := 13) hx hb hts hiX5 hown hK hP 0 rfl rfl 3 (by decide) hf29 (fun _ h9 => h9) rfl dX5_readWord_78 ?_
    refine lv_iconst (v := 1) hx hb dX5_readWord_81 (by decide) ?_
    have JN93 : ∀  (H : Heap) (locs : List Loc), (wj_X5_readWord_93 text_size text_bytes Q wordPlace_4 r_6)  → va_P (dC, dI) vwCl [(a_this, .inr (7, [.ref a_text, .ref a_operands, .ref a_told, .int r_6, .int wordPlace_4, .int wordPlace_4, .int number, .int statementPlace, .int action, .int how, .int (b2i isLast), .int faultKind, .int faultPlace])), (a_text, .inr (12, [.ref a_text_bytes, .int text_size])), (a_text_bytes, .inl (g 0, 160, .inl text_bytes))] H → va_D A [(a_this, .inr (7, [.ref a_text, .ref a_operands, .ref a_told, .int r_6, .int wordPlace_4, .int wordPlace_4, .int number, .int statementPlace, .int action, .int how, .int (b2i isLast), .int faultKind, .int faultPlace])), (a_text, .inr (12, [.ref a_text_bytes, .int text_size])), (a_text_bytes, .inl (g 0, 160, .inl text_bytes))] → va_S A s.heap H locs → ∀ (ls : Array Slot), lv_has ls 1 [(0, .ref a_this)] → W p l e (headSpec wqX5_readWord ({ frames := 1, cells := 0, slots := 0, locals := 21 })).room s m ([.ref a_this] : List Value).toArray below meth c H locs 0 0 QM (F0 m 93 ls []) := by
      intro  H locs hw hP hD hS ls hl
      have EX93_158 : ∀ (wordEnd_12 : Int32) (H : Heap) (locs : List Loc), (wx_X5_readWord_93_158 Q wordPlace_4 r_6) wordEnd_12 → va_P (dC, dI) vwCl [(a_this, .inr (7, [.ref a_text, .ref a_operands, .ref a_told, .int r_6, .int wordPlace_4, .int wordEnd_12, .int number, .int statementPlace, .int action, .int how, .int (b2i isLast), .int faultKind, .int faultPlace])), (a_text, .inr (12, [.ref a_text_bytes, .int text_size])), (a_text_bytes, .inl (g 0, 160, .inl text_bytes))] H → va_D A [(a_this, .inr (7, [.ref a_text, .ref a_operands, .ref a_told, .int r_6, .int wordPlace_4, .int wordEnd_12, .int number, .int statementPlace, .int action, .int how, .int (b2i isLast), .int faultKind, .int faultPlace])), (a_text, .inr (12, [.ref a_text_bytes, .int text_size])), (a_text_bytes, .inl (g 0, 160, .inl text_bytes))] → va_S A s.heap H locs → ∀ (ls : Array Slot), lv_has ls 1 [] → W p l e (headSpec wqX5_readWord ({ frames := 1, cells := 0, slots := 0, locals := 21 })).room s m ([.ref a_this] : List Value).toArray below meth c H locs 0 0 QM (F0 m 158 ls []) := by
        intro wordEnd_12 H locs hw hP hD hS ls hl
        subst hQM
        have hP9 := hP.sub (ws' := [(a_this, .inr (7, [.ref a_text, .ref a_operands, .ref a_told, .int r_6, .int wordPlace_4, .int wordEnd_12, .int number, .int statementPlace, .int action, .int how, .int (b2i isLast), .int faultKind, .int faultPlace])), (a_text, .inr (12, [.ref a_text_bytes, .int text_size])), (a_text_bytes, .inl (g 0, 160, .inl text_bytes))]) [0, 1, 2] rfl
        have hD9 := hD.sub (ws' := [(a_this, .inr (7, [.ref a_text, .ref a_operands, .ref a_told, .int r_6, .int wordPlace_4, .int wordEnd_12, .int number, .int statementPlace, .int action, .int how, .int (b2i isLast), .int faultKind, .int faultPlace])), (a_text, .inr (12, [.ref a_text_bytes, .int text_size])), (a_text_bytes, .inl (g 0, 160, .inl text_bytes))]) [0, 1, 2] (by decide) rfl
        exact W.vret hx hb hr (fun t ht hW => ⟨⟨(r_6, wordPlace_4, wordEnd_12, ()), rfl, hw, ⟨P_at ht hP9, hD9⟩⟩, hS.F ht⟩) hS.2.2 dX5_readWord_158
      have LOOP93 : ∀ (n93 : Nat) (wordEnd_11 : Int32) (H : Heap) (locs : List Loc), wl_X5_readWord_93 text_size text_bytes r_6 (wx_X5_readWord_93_158 Q wordPlace_4 r_6) n93 wordEnd_11 → va_P (dC, dI) vwCl [(a_this, .inr (7, [.ref a_text, .ref a_operands, .ref a_told, .int r_6, .int wordPlace_4, .int wordEnd_11, .int number, .int statementPlace, .int action, .int how, .int (b2i isLast), .int faultKind, .int faultPlace])), (a_text, .inr (12, [.ref a_text_bytes, .int text_size])), (a_text_bytes, .inl (g 0, 160, .inl text_bytes))] H → va_D A [(a_this, .inr (7, [.ref a_text, .ref a_operands, .ref a_told, .int r_6, .int wordPlace_4, .int wordEnd_11, .int number, .int statementPlace, .int action, .int how, .int (b2i isLast), .int faultKind, .int faultPlace])), (a_text, .inr (12, [.ref a_text_bytes, .int text_size])), (a_text_bytes, .inl (g 0, 160, .inl text_bytes))] → va_S A s.heap H locs → ∀ (ls : Array Slot), lv_has ls 1 [(0, .ref a_this)] → W p l e (headSpec wqX5_readWord ({ frames := 1, cells := 0, slots := 0, locals := 21 })).room s m ([.ref a_this] : List Value).toArray below meth c H locs 0 0 QM (F0 m 93 ls []) := by
        intro n93
        induction n93 with
        | zero =>
          intro wordEnd_11 H locs hw hP hD hS ls hl
          exact False.elim hw
        | succ n93 ih93 =>
          intro wordEnd_11 H locs hw hP hD hS ls hl
          rw [wl_X5_readWord_93_s] at hw
          refine lv_aload_n hx hb dX5_readWord_93 rfl (lv_at hl 0 rfl) ?_
          refine va_get (D := (dC, dI)) (ci := 7) (v := .int wordEnd_11) (C := RX5) (T := TX5) (N := 13) hx hb hts hiX5 hown hK hP 0 rfl rfl 5 (by decide) hf36 (fun _ h9 => h9) rfl dX5_readWord_94 ?_
          refine lv_aload_n hx hb dX5_readWord_97 rfl (lv_at hl 0 rfl) ?_
          refine va_get (D := (dC, dI)) (ci := 7) (v := .ref a_text) (C := RX5) (T := TX5) (N := 13) hx hb hts hiX5 hown hK hP 0 rfl rfl 0 (by decide) hf12 (fun _ h9 => h9) rfl dX5_readWord_98 ?_
          refine va_getN (D := (dC, dI)) (ci := 12) (v := .int text_size) (C := RX10) (T := TX10) (N := 2) hx hb hts hiX10 hown hK hP 1 rfl rfl 1 (by decide) (nf_50 hG) (fun _ h9 => h9) rfl dX5_readWord_101 ?_
          refine lv_icmp_ge (tgt := 158) hx hb dX5_readWord_104 (by decide) (fun c_13 => ?_) (fun c_13 => ?_)
          · have hw := hw.1 c_13
            exact EX93_158 wordEnd_11 _ _ hw (hP.sub [0, 1, 2] rfl) (hD.sub [0, 1, 2] (by decide) rfl) hS _ (lv_sub hl [] rfl)
          · have hw := hw.2 c_13
            refine lv_aload_n hx hb dX5_readWord_107 rfl (lv_at hl 0 rfl) ?_
            refine va_get (D := (dC, dI)) (ci := 7) (v := .ref a_text) (C := RX5) (T := TX5) (N := 13) hx hb hts hiX5 hown hK hP 0 rfl rfl 0 (by decide) hf12 (fun _ h9 => h9) rfl dX5_readWord_108 ?_
            refine lv_aload_n hx hb dX5_readWord_111 rfl (lv_at hl 0 rfl) ?_
            refine va_get (D := (dC, dI)) (ci := 7) (v := .int wordEnd_11) (C := RX5) (T := TX5) (N := 13) hx hb hts hiX5 hown hK hP 0 rfl rfl 5 (by decide) hf36 (fun _ h9 => h9) rfl dX5_readWord_112 ?_
            refine va_calli (va_runV (As := [.int wordEnd_11]) (rest := []) ⟨hx, hb, hml, hown, hts⟩ (c_X10_byteAt l dC dI g (Wd := [(a_this, .inr (7, [.ref a_text, .ref a_operands, .ref a_told, .int r_6, .int wordPlace_4, .int wordEnd_11, .int number, .int statementPlace, .int action, .int how, .int (b2i isLast), .int faultKind, .int faultPlace])), (a_text, .inr (12, [.ref a_text_bytes, .int text_size])), (a_text_bytes, .inl (g 0, 160, .inl text_bytes))]) (a_this := a_text) (a_bytes := a_text_bytes) (size := text_size) (bytes := text_bytes) (place := wordEnd_11) (k_this := 1) (w_this := rfl) (k_bytes := 2) (w_bytes := rfl) (hw := hw) (sz := H.size)) (cwV 1 hts (gqV aw_5_64 aw_5_65 aw_5_66 aw_1_11 aw_5_67) rfl rfl rfl (by decide +kernel) ⟨Nat.le_of_ble_eq_true rfl, Nat.le_of_ble_eq_true rfl⟩) ⟨PG_blind, va_recv hK hP (ci := 12) (q0 := 1) rfl rfl, PG_call hK hG hS hP hD (A_all hD hA hS.1)⟩ rfl rfl hl.1 rfl (lv_room (Nat.le_of_ble_eq_true rfl)) dX5_readWord_115 ⟨Nat.le_of_ble_eq_true rfl, Nat.le_of_ble_eq_true rfl⟩) hS (fun q _ h => (A_all hD hA hS.1) q h) (A_all hD hA hS.1) (fun r_14 u_14 t_14 H_14 L_14 ht_14 hvm_14 hw_14 hB_14 hz_14 hk_14 hS => ?_)
            rw [ht_14] at hB_14
            have hP : va_P (dC, dI) vwCl [(a_this, .inr (7, [.ref a_text, .ref a_operands, .ref a_told, .int r_6, .int wordPlace_4, .int wordEnd_11, .int number, .int statementPlace, .int action, .int how, .int (b2i isLast), .int faultKind, .int faultPlace])), (a_text, .inr (12, [.ref a_text_bytes, .int text_size])), (a_text_bytes, .inl (g 0, 160, .inl text_bytes))] H_14 := hB_14
            have hw := hw_14
            refine va_calli (va_runS (As := [.int r_14]) (rest := []) ⟨hx, hb, hml, hown, hts⟩ (c_X5_kindOf l dC dI g (Wd := [(a_this, .inr (7, [.ref a_text, .ref a_operands, .ref a_told, .int r_6, .int wordPlace_4, .int wordEnd_11, .int number, .int statementPlace, .int action, .int how, .int (b2i isLast), .int faultKind, .int faultPlace])), (a_text, .inr (12, [.ref a_text_bytes, .int text_size])), (a_text_bytes, .inl (g 0, 160, .inl text_bytes))]) (one := r_14) (hw := hw) (sz := H_14.size)) (va_cwS 1 hts (gqS aw_5_68 aw_5_69 aw_1_10 aw_5_70) rfl rfl rfl (by decide +kernel) ⟨Nat.le_of_ble_eq_true rfl, Nat.le_of_ble_eq_true rfl⟩) ⟨PG_blind, PG_call hK hG hS hP hD (A_all hD hA hS.1)⟩ rfl rfl hl.1 rfl (lv_room (Nat.le_of_ble_eq_true rfl)) dX5_readWord_118 ⟨Nat.le_of_ble_eq_true rfl, Nat.le_of_ble_eq_true rfl⟩) hS (fun q _ h => (A_all hD hA hS.1) q h) (A_all hD hA hS.1) (fun r_15 u_15 t_15 H_15 L_15 ht_15 hvm_15 hw_15 hB_15 hz_15 hk_15 hS => ?_)
            rw [ht_15] at hB_15
            have hP : va_P (dC, dI) vwCl [(a_this, .inr (7, [.ref a_text, .ref a_operands, .ref a_told, .int r_6, .int wordPlace_4, .int wordEnd_11, .int number, .int statementPlace, .int action, .int how, .int (b2i isLast), .int faultKind, .int faultPlace])), (a_text, .inr (12, [.ref a_text_bytes, .int text_size])), (a_text_bytes, .inl (g 0, 160, .inl text_bytes))] H_15 := hB_15
            have hw := hw_15
            refine lv_aload_n hx hb dX5_readWord_121 rfl (lv_at hl 0 rfl) ?_
            refine va_get (D := (dC, dI)) (ci := 7) (v := .int r_6) (C := RX5) (T := TX5) (N := 13) hx hb hts hiX5 hown hK hP 0 rfl rfl 3 (by decide) hf29 (fun _ h9 => h9) rfl dX5_readWord_122 ?_
            refine lv_icmp_ne (tgt := 158) hx hb dX5_readWord_125 (by decide) (fun c_16 => ?_) (fun c_16 => ?_)
            · have hw := hw.2 c_16
              exact EX93_158 wordEnd_11 _ _ hw (hP.sub [0, 1, 2] rfl) (hD.sub [0, 1, 2] (by decide) rfl) hS _ (lv_sub hl [] rfl)
            · have hw := hw.1 c_16
              refine lv_aload_n hx hb dX5_readWord_128 rfl (lv_at hl 0 rfl) ?_
              refine lv_dup hx hb dX5_readWord_129 rfl ?_
              refine va_get (D := (dC, dI)) (ci := 7) (v := .int wordEnd_11) (C := RX5) (T := TX5) (N := 13) hx hb hts hiX5 hown hK hP 0 rfl rfl 5 (by decide) hf36 (fun _ h9 => h9) rfl dX5_readWord_130 ?_
              refine lv_iconst (v := 1) hx hb dX5_readWord_133 (by decide) ?_
              refine lv_iadd hx hb dX5_readWord_134 ?_
              refine lv_topi (fun x_17 ex_17 => ?_)
              have hw := hw x_17 ex_17
              refine va_put (D := (dC, dI)) (ci := 7) (v := .int x_17) (ty := .int) (C := RX5) (T := TX5) (N := 13) hx hb hts hiX5 tyX5 tyX5_ok nmX5 hown hK hP hD hS 0 rfl rfl 5 (by decide) hf36 (fun _ h9 => h9) rfl (by decide +kernel) rfl rfl (Nat.le_of_ble_eq_true rfl) dX5_readWord_135 (fun H_18 L_19 hP hD hS => ?_)
              have hP : va_P (dC, dI) vwCl [(a_this, .inr (7, [.ref a_text, .ref a_operands, .ref a_told, .int r_6, .int wordPlace_4, .int x_17, .int number, .int statementPlace, .int action, .int how, .int (b2i isLast), .int faultKind, .int faultPlace])), (a_text, .inr (12, [.ref a_text_bytes, .int text_size])), (a_text_bytes, .inl (g 0, 160, .inl text_bytes))] H_18 := hP
              have hD : va_D A [(a_this, .inr (7, [.ref a_text, .ref a_operands, .ref a_told, .int r_6, .int wordPlace_4, .int x_17, .int number, .int statementPlace, .int action, .int how, .int (b2i isLast), .int faultKind, .int faultPlace])), (a_text, .inr (12, [.ref a_text_bytes, .int text_size])), (a_text_bytes, .inl (g 0, 160, .inl text_bytes))] := hD
              refine lv_goto (tgt := 93) hx hb dX5_readWord_138 (by decide) ?_
              exact ih93 x_17 _ _ hw (hP.sub [0, 1, 2] rfl) (hD.sub [0, 1, 2] (by decide) rfl) hS _ (lv_sub hl [0] rfl)
      obtain ⟨n93, hw⟩ := hw
      exact LOOP93 n93 wordPlace_4 _ _ hw (hP.sub [0, 1, 2] rfl) (hD.sub [0, 1, 2] (by decide) rfl) hS _ (lv_sub hl [0] rfl)
    refine lv_icmp_eq (tgt := 93) hx hb dX5_readWord_82 (by decide) (fun c_20 => ?_) (fun c_20 => ?_)
    · have hw := hw.1 c_20
      exact JN93  _ _ hw (hP.sub [0, 1, 2] rfl) (hD.sub [0, 1, 2] (by decide) rfl) hS _ (lv_sub hl [0] rfl)
    · have hw := hw.2 c_20
      refine lv_aload_n hx hb dX5_readWord_85 rfl (lv_at hl 0 rfl) ?_
      refine va_get (D := (dC, dI)) (ci := 7) (v := .int r_6) (C := RX5) (T := TX5) (N := 13) hx hb hts hiX5 hown hK hP 0 rfl rfl 3 (by decide) hf29 (fun _ h9 => h9) rfl dX5_readWord_86 ?_
      refine lv_iconst (v := 2) hx hb dX5_readWord_89 (by decide) ?_
      refine lv_icmp_ne (tgt := 141) hx hb dX5_readWord_90 (by decide) (fun c_21 => ?_) (fun c_21 => ?_)
      · have hw := hw.2 c_21
        refine lv_aload_n hx hb dX5_readWord_141 rfl (lv_at hl 0 rfl) ?_
        refine va_get (D := (dC, dI)) (ci := 7) (v := .int r_6) (C := RX5) (T := TX5) (N := 13) hx hb hts hiX5 hown hK hP 0 rfl rfl 3 (by decide) hf29 (fun _ h9 => h9) rfl dX5_readWord_142 ?_
        refine lv_if_eq (tgt := 158) hx hb dX5_readWord_145 (by decide) (fun c_22 => ?_) (fun c_22 => ?_)
        · have hw := hw.1 c_22
          subst hQM
          have hP9 := hP.sub (ws' := [(a_this, .inr (7, [.ref a_text, .ref a_operands, .ref a_told, .int r_6, .int wordPlace_4, .int wordPlace_4, .int number, .int statementPlace, .int action, .int how, .int (b2i isLast), .int faultKind, .int faultPlace])), (a_text, .inr (12, [.ref a_text_bytes, .int text_size])), (a_text_bytes, .inl (g 0, 160, .inl text_bytes))]) [0, 1, 2] rfl
          have hD9 := hD.sub (ws' := [(a_this, .inr (7, [.ref a_text, .ref a_operands, .ref a_told, .int r_6, .int wordPlace_4, .int wordPlace_4, .int number, .int statementPlace, .int action, .int how, .int (b2i isLast), .int faultKind, .int faultPlace])), (a_text, .inr (12, [.ref a_text_bytes, .int text_size])), (a_text_bytes, .inl (g 0, 160, .inl text_bytes))]) [0, 1, 2] (by decide) rfl
          exact W.vret hx hb hr (fun t ht hW => ⟨⟨(r_6, wordPlace_4, wordPlace_4, ()), rfl, hw, ⟨P_at ht hP9, hD9⟩⟩, hS.F ht⟩) hS.2.2 dX5_readWord_158
        · have hw := hw.2 c_22
          refine lv_aload_n hx hb dX5_readWord_148 rfl (lv_at hl 0 rfl) ?_
          refine lv_dup hx hb dX5_readWord_149 rfl ?_
          refine va_get (D := (dC, dI)) (ci := 7) (v := .int wordPlace_4) (C := RX5) (T := TX5) (N := 13) hx hb hts hiX5 hown hK hP 0 rfl rfl 5 (by decide) hf36 (fun _ h9 => h9) rfl dX5_readWord_150 ?_
          refine lv_iconst (v := 1) hx hb dX5_readWord_153 (by decide) ?_
          refine lv_iadd hx hb dX5_readWord_154 ?_
          refine lv_topi (fun x_23 ex_23 => ?_)
          have hw := hw x_23 ex_23
          refine va_put (D := (dC, dI)) (ci := 7) (v := .int x_23) (ty := .int) (C := RX5) (T := TX5) (N := 13) hx hb hts hiX5 tyX5 tyX5_ok nmX5 hown hK hP hD hS 0 rfl rfl 5 (by decide) hf36 (fun _ h9 => h9) rfl (by decide +kernel) rfl rfl (Nat.le_of_ble_eq_true rfl) dX5_readWord_155 (fun H_24 L_25 hP hD hS => ?_)
          have hP : va_P (dC, dI) vwCl [(a_this, .inr (7, [.ref a_text, .ref a_operands, .ref a_told, .int r_6, .int wordPlace_4, .int x_23, .int number, .int statementPlace, .int action, .int how, .int (b2i isLast), .int faultKind, .int faultPlace])), (a_text, .inr (12, [.ref a_text_bytes, .int text_size])), (a_text_bytes, .inl (g 0, 160, .inl text_bytes))] H_24 := hP
          have hD : va_D A [(a_this, .inr (7, [.ref a_text, .ref a_operands, .ref a_told, .int r_6, .int wordPlace_4, .int x_23, .int number, .int statementPlace, .int action, .int how, .int (b2i isLast), .int faultKind, .int faultPlace])), (a_text, .inr (12, [.ref a_text_bytes, .int text_size])), (a_text_bytes, .inl (g 0, 160, .inl text_bytes))] := hD
          subst hQM
          have hP9 := hP.sub (ws' := [(a_this, .inr (7, [.ref a_text, .ref a_operands, .ref a_told, .int r_6, .int wordPlace_4, .int x_23, .int number, .int statementPlace, .int action, .int how, .int (b2i isLast), .int faultKind, .int faultPlace])), (a_text, .inr (12, [.ref a_text_bytes, .int text_size])), (a_text_bytes, .inl (g 0, 160, .inl text_bytes))]) [0, 1, 2] rfl
          have hD9 := hD.sub (ws' := [(a_this, .inr (7, [.ref a_text, .ref a_operands, .ref a_told, .int r_6, .int wordPlace_4, .int x_23, .int number, .int statementPlace, .int action, .int how, .int (b2i isLast), .int faultKind, .int faultPlace])), (a_text, .inr (12, [.ref a_text_bytes, .int text_size])), (a_text_bytes, .inl (g 0, 160, .inl text_bytes))]) [0, 1, 2] (by decide) rfl
          exact W.vret hx hb hr (fun t ht hW => ⟨⟨(r_6, wordPlace_4, x_23, ()), rfl, hw, ⟨P_at ht hP9, hD9⟩⟩, hS.F ht⟩) hS.2.2 dX5_readWord_158
      · have hw := hw.1 c_21
        exact JN93  _ _ hw (hP.sub [0, 1, 2] rfl) (hD.sub [0, 1, 2] (by decide) rfl) hS _ (lv_sub hl [0] rfl)
  have LOOP8 : ∀ (n8 : Nat) (wordPlace_3 : Int32) (H : Heap) (locs : List Loc), wl_X5_readWord_8 text_size text_bytes (wx_X5_readWord_8_51 text_size text_bytes Q) n8 wordPlace_3 → va_P (dC, dI) vwCl [(a_this, .inr (7, [.ref a_text, .ref a_operands, .ref a_told, .int wordKind, .int wordPlace_3, .int wordEnd, .int number, .int statementPlace, .int action, .int how, .int (b2i isLast), .int faultKind, .int faultPlace])), (a_text, .inr (12, [.ref a_text_bytes, .int text_size])), (a_text_bytes, .inl (g 0, 160, .inl text_bytes))] H → va_D A [(a_this, .inr (7, [.ref a_text, .ref a_operands, .ref a_told, .int wordKind, .int wordPlace_3, .int wordEnd, .int number, .int statementPlace, .int action, .int how, .int (b2i isLast), .int faultKind, .int faultPlace])), (a_text, .inr (12, [.ref a_text_bytes, .int text_size])), (a_text_bytes, .inl (g 0, 160, .inl text_bytes))] → va_S A s.heap H locs → ∀ (ls : Array Slot), lv_has ls 1 [(0, .ref a_this)] → W p l e (headSpec wqX5_readWord ({ frames := 1, cells := 0, slots := 0, locals := 21 })).room s m ([.ref a_this] : List Value).toArray below meth c H locs 0 0 QM (F0 m 8 ls []) := by
    intro n8
    induction n8 with
    | zero =>
      intro wordPlace_3 H locs hw hP hD hS ls hl
      exact False.elim hw
    | succ n8 ih8 =>
      intro wordPlace_3 H locs hw hP hD hS ls hl
      rw [wl_X5_readWord_8_s] at hw
      refine lv_aload_n hx hb dX5_readWord_8 rfl (lv_at hl 0 rfl) ?_
      refine va_get (D := (dC, dI)) (ci := 7) (v := .int wordPlace_3) (C := RX5) (T := TX5) (N := 13) hx hb hts hiX5 hown hK hP 0 rfl rfl 4 (by decide) hf33 (fun _ h9 => h9) rfl dX5_readWord_9 ?_
      refine lv_aload_n hx hb dX5_readWord_12 rfl (lv_at hl 0 rfl) ?_
      refine va_get (D := (dC, dI)) (ci := 7) (v := .ref a_text) (C := RX5) (T := TX5) (N := 13) hx hb hts hiX5 hown hK hP 0 rfl rfl 0 (by decide) hf12 (fun _ h9 => h9) rfl dX5_readWord_13 ?_
      refine va_getN (D := (dC, dI)) (ci := 12) (v := .int text_size) (C := RX10) (T := TX10) (N := 2) hx hb hts hiX10 hown hK hP 1 rfl rfl 1 (by decide) (nf_50 hG) (fun _ h9 => h9) rfl dX5_readWord_16 ?_
      refine lv_icmp_ge (tgt := 51) hx hb dX5_readWord_19 (by decide) (fun c_26 => ?_) (fun c_26 => ?_)
      · have hw := hw.1 c_26
        exact EX8_51 wordPlace_3 _ _ hw (hP.sub [0, 1, 2] rfl) (hD.sub [0, 1, 2] (by decide) rfl) hS _ (lv_sub hl [0] rfl)
      · have hw := hw.2 c_26
        refine lv_aload_n hx hb dX5_readWord_22 rfl (lv_at hl 0 rfl) ?_
        refine va_get (D := (dC, dI)) (ci := 7) (v := .ref a_text) (C := RX5) (T := TX5) (N := 13) hx hb hts hiX5 hown hK hP 0 rfl rfl 0 (by decide) hf12 (fun _ h9 => h9) rfl dX5_readWord_23 ?_
        refine lv_aload_n hx hb dX5_readWord_26 rfl (lv_at hl 0 rfl) ?_
        refine va_get (D := (dC, dI)) (ci := 7) (v := .int wordPlace_3) (C := RX5) (T := TX5) (N := 13) hx hb hts hiX5 hown hK hP 0 rfl rfl 4 (by decide) hf33 (fun _ h9 => h9) rfl dX5_readWord_27 ?_
        refine va_calli (va_runV (As := [.int wordPlace_3]) (rest := []) ⟨hx, hb, hml, hown, hts⟩ (c_X10_byteAt l dC dI g (Wd := [(a_this, .inr (7, [.ref a_text, .ref a_operands, .ref a_told, .int wordKind, .int wordPlace_3, .int wordEnd, .int number, .int statementPlace, .int action, .int how, .int (b2i isLast), .int faultKind, .int faultPlace])), (a_text, .inr (12, [.ref a_text_bytes, .int text_size])), (a_text_bytes, .inl (g 0, 160, .inl text_bytes))]) (a_this := a_text) (a_bytes := a_text_bytes) (size := text_size) (bytes := text_bytes) (place := wordPlace_3) (k_this := 1) (w_this := rfl) (k_bytes := 2) (w_bytes := rfl) (hw := hw) (sz := H.size)) (cwV 1 hts (gqV aw_5_64 aw_5_65 aw_5_66 aw_1_11 aw_5_67) rfl rfl rfl (by decide +kernel) ⟨Nat.le_of_ble_eq_true rfl, Nat.le_of_ble_eq_true rfl⟩) ⟨PG_blind, va_recv hK hP (ci := 12) (q0 := 1) rfl rfl, PG_call hK hG hS hP hD (A_all hD hA hS.1)⟩ rfl rfl hl.1 rfl (lv_room (Nat.le_of_ble_eq_true rfl)) dX5_readWord_30 ⟨Nat.le_of_ble_eq_true rfl, Nat.le_of_ble_eq_true rfl⟩) hS (fun q _ h => (A_all hD hA hS.1) q h) (A_all hD hA hS.1) (fun r_27 u_27 t_27 H_27 L_27 ht_27 hvm_27 hw_27 hB_27 hz_27 hk_27 hS => ?_)
        rw [ht_27] at hB_27
        have hP : va_P (dC, dI) vwCl [(a_this, .inr (7, [.ref a_text, .ref a_operands, .ref a_told, .int wordKind, .int wordPlace_3, .int wordEnd, .int number, .int statementPlace, .int action, .int how, .int (b2i isLast), .int faultKind, .int faultPlace])), (a_text, .inr (12, [.ref a_text_bytes, .int text_size])), (a_text_bytes, .inl (g 0, 160, .inl text_bytes))] H_27 := hB_27
        have hw := hw_27
        refine lv_bipush (v := 32) hx hb dX5_readWord_33 (by decide) ?_
        refine lv_icmp_ne (tgt := 51) hx hb dX5_readWord_35 (by decide) (fun c_28 => ?_) (fun c_28 => ?_)
        · have hw := hw.2 c_28
          exact EX8_51 wordPlace_3 _ _ hw (hP.sub [0, 1, 2] rfl) (hD.sub [0, 1, 2] (by decide) rfl) hS _ (lv_sub hl [0] rfl)
        · have hw := hw.1 c_28
          refine lv_aload_n hx hb dX5_readWord_38 rfl (lv_at hl 0 rfl) ?_
          refine lv_dup hx hb dX5_readWord_39 rfl ?_
          refine va_get (D := (dC, dI)) (ci := 7) (v := .int wordPlace_3) (C := RX5) (T := TX5) (N := 13) hx hb hts hiX5 hown hK hP 0 rfl rfl 4 (by decide) hf33 (fun _ h9 => h9) rfl dX5_readWord_40 ?_
          refine lv_iconst (v := 1) hx hb dX5_readWord_43 (by decide) ?_
          refine lv_iadd hx hb dX5_readWord_44 ?_
          refine lv_topi (fun x_29 ex_29 => ?_)
          have hw := hw x_29 ex_29
          refine va_put (D := (dC, dI)) (ci := 7) (v := .int x_29) (ty := .int) (C := RX5) (T := TX5) (N := 13) hx hb hts hiX5 tyX5 tyX5_ok nmX5 hown hK hP hD hS 0 rfl rfl 4 (by decide) hf33 (fun _ h9 => h9) rfl (by decide +kernel) rfl rfl (Nat.le_of_ble_eq_true rfl) dX5_readWord_45 (fun H_30 L_31 hP hD hS => ?_)
          have hP : va_P (dC, dI) vwCl [(a_this, .inr (7, [.ref a_text, .ref a_operands, .ref a_told, .int wordKind, .int x_29, .int wordEnd, .int number, .int statementPlace, .int action, .int how, .int (b2i isLast), .int faultKind, .int faultPlace])), (a_text, .inr (12, [.ref a_text_bytes, .int text_size])), (a_text_bytes, .inl (g 0, 160, .inl text_bytes))] H_30 := hP
          have hD : va_D A [(a_this, .inr (7, [.ref a_text, .ref a_operands, .ref a_told, .int wordKind, .int x_29, .int wordEnd, .int number, .int statementPlace, .int action, .int how, .int (b2i isLast), .int faultKind, .int faultPlace])), (a_text, .inr (12, [.ref a_text_bytes, .int text_size])), (a_text_bytes, .inl (g 0, 160, .inl text_bytes))] := hD
          refine lv_goto (tgt := 8) hx hb dX5_readWord_48 (by decide) ?_
          exact ih8 x_29 _ _ hw (hP.sub [0, 1, 2] rfl) (hD.sub [0, 1, 2] (by decide) rfl) hS _ (lv_sub hl [0] rfl)
  obtain ⟨n8, hw⟩ := hw
  exact LOOP8 n8 wordEnd _ _ hw (hP.sub [0, 1, 2] rfl) (hD.sub [0, 1, 2] (by decide) rfl) hS _ (lv_sub hl [0] rfl)
theorem dX5_isWord_0 : decode cX5_isWord 0 = .ok (.aload_n 0, 1) := by decide +kernel
theorem dX5_isWord_1 : decode cX5_isWord 1 = .ok (.getfield 29, 3) := by decide +kernel
theorem dX5_isWord_4 : decode cX5_isWord 4 = .ok (.iconst 1, 1) := by decide +kernel
theorem dX5_isWord_5 : decode cX5_isWord 5 = .ok (.if_icmp .ne 19, 3) := by decide +kernel
theorem dX5_isWord_24 : decode cX5_isWord 24 = .ok (.iconst 0, 1) := by decide +kernel
theorem dX5_isWord_25 : decode cX5_isWord 25 = .ok (.ireturn, 1) := by decide +kernel
theorem dX5_isWord_8 : decode cX5_isWord 8 = .ok (.aload_n 0, 1) := by decide +kernel
theorem dX5_isWord_9 : decode cX5_isWord 9 = .ok (.getfield 36, 3) := by decide +kernel
theorem dX5_isWord_12 : decode cX5_isWord 12 = .ok (.aload_n 0, 1) := by decide +kernel
theorem dX5_isWord_13 : decode cX5_isWord 13 = .ok (.getfield 33, 3) := by decide +kernel
theorem dX5_isWord_16 : decode cX5_isWord 16 = .ok (.isub, 1) := by decide +kernel
theorem dX5_isWord_17 : decode cX5_isWord 17 = .ok (.aload_n 1, 1) := by decide +kernel
theorem dX5_isWord_18 : decode cX5_isWord 18 = .ok (.invokevirtual 172, 3) := by decide +kernel
theorem dX5_isWord_21 : decode cX5_isWord 21 = .ok (.if_icmp .eq 5, 3) := by decide +kernel
theorem dX5_isWord_26 : decode cX5_isWord 26 = .ok (.iconst 0, 1) := by decide +kernel
theorem dX5_isWord_27 : decode cX5_isWord 27 = .ok (.istore_n 2, 1) := by decide +kernel
theorem dX5_isWord_57 : decode cX5_isWord 57 = .ok (.iconst 0, 1) := by decide +kernel
theorem dX5_isWord_58 : decode cX5_isWord 58 = .ok (.ireturn, 1) := by decide +kernel
theorem dX5_isWord_65 : decode cX5_isWord 65 = .ok (.iconst 1, 1) := by decide +kernel
theorem dX5_isWord_66 : decode cX5_isWord 66 = .ok (.ireturn, 1) := by decide +kernel
theorem dX5_isWord_28 : decode cX5_isWord 28 = .ok (.iload_n 2, 1) := by decide +kernel
theorem dX5_isWord_29 : decode cX5_isWord 29 = .ok (.aload_n 1, 1) := by decide +kernel
theorem dX5_isWord_30 : decode cX5_isWord 30 = .ok (.invokevirtual 172, 3) := by decide +kernel
theorem dX5_isWord_33 : decode cX5_isWord 33 = .ok (.if_icmp .ge 32, 3) := by decide +kernel
theorem dX5_isWord_36 : decode cX5_isWord 36 = .ok (.aload_n 0, 1) := by decide +kernel
theorem dX5_isWord_37 : decode cX5_isWord 37 = .ok (.getfield 12, 3) := by decide +kernel
theorem dX5_isWord_40 : decode cX5_isWord 40 = .ok (.aload_n 0, 1) := by decide +kernel
theorem dX5_isWord_41 : decode cX5_isWord 41 = .ok (.getfield 33, 3) := by decide +kernel
theorem dX5_isWord_44 : decode cX5_isWord 44 = .ok (.iload_n 2, 1) := by decide +kernel
theorem dX5_isWord_45 : decode cX5_isWord 45 = .ok (.iadd, 1) := by decide +kernel
theorem dX5_isWord_46 : decode cX5_isWord 46 = .ok (.invokevirtual 156, 3) := by decide +kernel
theorem dX5_isWord_49 : decode cX5_isWord 49 = .ok (.aload_n 1, 1) := by decide +kernel
theorem dX5_isWord_50 : decode cX5_isWord 50 = .ok (.iload_n 2, 1) := by decide +kernel
theorem dX5_isWord_51 : decode cX5_isWord 51 = .ok (.invokevirtual 178, 3) := by decide +kernel
theorem dX5_isWord_54 : decode cX5_isWord 54 = .ok (.if_icmp .eq 5, 3) := by decide +kernel
theorem dX5_isWord_59 : decode cX5_isWord 59 = .ok (.iinc 2 1, 3) := by decide +kernel
theorem dX5_isWord_62 : decode cX5_isWord 62 = .ok (.goto (-34), 3) := by decide +kernel

set_option maxHeartbeats 8000000 in
set_option maxRecDepth 100000 in
theorem c_X5_isWord (l : Launch) (dC : Nat → ClassId) (dI : Nat → Nat → Nat) (g : Nat → ClassId) (Wd : va_W) (a_this : Nat) (a_text : Nat) (a_operands : Nat) (a_told : Nat) (wordKind : Int32) (wordPlace : Int32) (wordEnd : Int32) (number : Int32) (statementPlace : Int32) (action : Int32) (how : Int32) (isLast : Bool) (faultKind : Int32) (faultPlace : Int32) (a_text_bytes : Nat) (text_size : Int32) (text_bytes : Nat → Int32) (a_word : Nat) (word_n : Nat) (word_f : Nat → Int32) (k_this : Nat) (w_this : Wd[k_this]? = some (a_this, .inr (7, [.ref a_text, .ref a_operands, .ref a_told, .int wordKind, .int wordPlace, .int wordEnd, .int number, .int statementPlace, .int action, .int how, .int (b2i isLast), .int faultKind, .int faultPlace]))) (k_text : Nat) (w_text : Wd[k_text]? = some (a_text, .inr (12, [.ref a_text_bytes, .int text_size]))) (k_text_bytes : Nat) (w_text_bytes : Wd[k_text_bytes]? = some (a_text_bytes, .inl (g 0, 160, .inl text_bytes))) (Q : Bool → Prop) (hw : wp_X5_isWord wordKind wordPlace wordEnd text_size text_bytes word_n word_f Q) (sz : Nat) : Met l yX5_isWord wqX5_isWord ({ frames := 10, cells := 0, slots := 0, locals := 120 }) (va_Pc [.ref a_this, .ref a_word] (PX (GSb word_n word_f a_word) (dC, dI) g Wd sz)) (va_Qi (fun (r : Int32) (u : Unit) => ∃ b : Bool, r = b2i b ∧ Q b) (fun (u : Unit) t9 => va_P (dC, dI) vwCl Wd t9.heap) (va_A Wd sz)) 0 0 (va_A Wd sz) := by
  refine Met.ofW (cc := cX5_isWord) (maxL := 3) (ret := (some .boolean)) (by decide) rfl ?_
  intro p e s m args below meth c s₁ B hml hv
  obtain ⟨rfl, ⟨hsz, hP, hK, hD0, hG⟩, hT⟩ := hv
  have hx := B.exec
  have hb := B.bytes
  have hr := B.returns
  have hts := atoms_spec (ws := wqX5_isWord) B.pre
  have hown : s.vm.findClass RX5 = some m.cls := findClass_of_methodNamed B.named
  have hlocks := B.notSynchronized
  subst hsz
  have hD := hD0.self (sz := s.heap.size)
  generalize hAe : va_A Wd s.heap.size = A at hD hG hT ⊢
  have hA : ∀ q : Nat, s.heap.size ≤ q → A q := fun q h => by rw [← hAe]; exact Or.inr h
  have hS : va_S A s.heap s.heap [] := va_S.rf
  have hl := lv_entry ([.ref a_this, .ref a_word]) (n := 3) (Nat.le_of_ble_eq_true rfl)
  rw [lg_entry_eq]
  generalize (lg_sl ([.ref a_this, .ref a_word]) ++ List.replicate (3 - (lg_sl ([.ref a_this, .ref a_word])).length) Slot.unset).toArray = ls at hl ⊢
  have hl : lv_has ls 3 [(0, .ref a_this), (1, .ref a_word)] := hl
  unfold wp_X5_isWord at hw
  have hf29 := hts (Cond.fieldLink RX5 29 "RunmergeOffice$Reader" "wordKind" "I") (aw_l aw_2_83)
  have hiX5 : ∀ w ∈ u_ws RX5 TX5 13, w ∈ wqX5_isWord := fun w h => aw_l (aw_wsX50 w h)
  have hf36 := hts (Cond.fieldLink RX5 36 "RunmergeOffice$Reader" "wordEnd" "I") (aw_l aw_2_85)
  have hf33 := hts (Cond.fieldLink RX5 33 "RunmergeOffice$Reader" "wordPlace" "I") (aw_l aw_2_84)
  have hf12 := hts (Cond.fieldLink RX5 12 "RunmergeOffice$Reader" "text" "LRunmergeOffice$Text;") (aw_l aw_2_78)
  refine lv_aload_n hx hb dX5_isWord_0 rfl (lv_at hl 0 rfl) ?_
  refine va_get (D := (dC, dI)) (ci := 7) (v := .int wordKind) (C := RX5) (T := TX5) (N := 13) hx hb hts hiX5 hown hK hP k_this w_this rfl 3 (by decide) hf29 (fun _ h9 => h9) rfl dX5_isWord_1 ?_
  refine lv_iconst (v := 1) hx hb dX5_isWord_4 (by decide) ?_
  refine lv_icmp_ne (tgt := 24) hx hb dX5_isWord_5 (by decide) (fun c_1 => ?_) (fun c_1 => ?_)
  · have hw := hw.2 c_1
    refine lv_iconst (v := 0) hx hb dX5_isWord_24 (by decide) ?_
    exact W.zret (v := 0) hx hb hr rfl (fun t ht hW => ⟨⟨_, (), rfl, ⟨false, rfl, hw⟩, P_at ht hP⟩, hS.F ht⟩) hS.2.2 dX5_isWord_25
  · have hw := hw.1 c_1
    refine lv_aload_n hx hb dX5_isWord_8 rfl (lv_at hl 0 rfl) ?_
    refine va_get (D := (dC, dI)) (ci := 7) (v := .int wordEnd) (C := RX5) (T := TX5) (N := 13) hx hb hts hiX5 hown hK hP k_this w_this rfl 5 (by decide) hf36 (fun _ h9 => h9) rfl dX5_isWord_9 ?_
    refine lv_aload_n hx hb dX5_isWord_12 rfl (lv_at hl 0 rfl) ?_
    refine va_get (D := (dC, dI)) (ci := 7) (v := .int wordPlace) (C := RX5) (T := TX5) (N := 13) hx hb hts hiX5 hown hK hP k_this w_this rfl 4 (by decide) hf33 (fun _ h9 => h9) rfl dX5_isWord_13 ?_
    refine lv_isub hx hb dX5_isWord_16 ?_
    refine lv_topi (fun x_2 ex_2 => ?_)
    have hw := hw x_2 ex_2
    refine lv_aload_n hx hb dX5_isWord_17 rfl (lv_at hl 1 rfl) ?_
    have hn_3 := hw.1
    have hw := hw.2
    have hPs : va_P (dC, dI) vwCl (Wd ++ []) s.heap := by rw [List.append_nil]; exact hP
    have hDs : va_D A (Wd ++ []) := by rw [List.append_nil]; exact hD
    have hPc : va_P (dC, dI) vwCl [] s.heap := P_r hPs
    have hDc : va_D A [] := D_r hDs
    have hFc : ∀ q, va_A [] s.heap.size q → A q := A_all hDc hA hS.1
    refine va_calli (va_runV (As := []) (rest := [.int x_2]) ⟨hx, hb, hml, hown, hts⟩ (c_J0_length_8abf5 l dC dI g (a_this_ := a_word) (this__n := word_n) (this__f := word_f) (Q := fun r => r = nI word_n) (hw := len_w) (sz := s.heap.size)) (cwV 0 hts (gqV aw_5_80 aw_5_81 aw_5_82 aw_1_21 aw_5_83) rfl rfl rfl (by decide +kernel) ⟨Nat.le_of_ble_eq_true rfl, Nat.le_of_ble_eq_true rfl⟩) ⟨PX_blind (GSb_go word_n word_f a_word), GSb_recv hT hS, PX_call (GSb_go word_n word_f a_word) hK hG hS hPc hDc hFc hT⟩ rfl rfl hl.1 rfl (lv_room (Nat.le_of_ble_eq_true rfl)) dX5_isWord_18 ⟨Nat.le_of_ble_eq_true rfl, Nat.le_of_ble_eq_true rfl⟩) hS (fun q _ h => hFc q h) hFc (fun r_4 u_4 t_4 H_4 L_4 ht_4 hvm_4 hw_4 hB_4 hz_4 hk_4 hS => ?_)
    rw [ht_4] at hB_4
    obtain ⟨hP1, hD1⟩ := hB_4
    obtain ⟨hP, hD⟩ := join_r hPs hDs hk_4 hFc hP1 hD1
    rw [List.append_nil] at hP hD
    have hP : va_P (dC, dI) vwCl Wd H_4 := hP
    have hD : va_D A Wd := hD
    obtain rfl : r_4 = nI word_n := hw_4
    refine lv_icmp_eq (tgt := 26) hx hb dX5_isWord_21 (by decide) (fun c_5 => ?_) (fun c_5 => ?_)
    · have hw := hw.1 c_5
      refine lv_iconst (v := 0) hx hb dX5_isWord_26 (by decide) ?_
      refine lv_istore_n (lv' := [(2, .int 0), (0, .ref a_this), (1, .ref a_word)]) hx hb dX5_isWord_27 rfl hl (by decide) rfl (fun ls hl => ?_)
      refine W_abs (fun QM hQM => ?_)
      have EX28_57 : ∀  (H : Heap) (locs : List Loc), (wx_X5_isWord_28_57 Q)  → va_P (dC, dI) vwCl Wd H → va_S A s.heap H locs → ∀ (ls : Array Slot), lv_has ls 3 [] → W p l e (headSpec wqX5_isWord ({ frames := 10, cells := 0, slots := 0, locals := 120 })).room s m ([.ref a_this, .ref a_word] : List Value).toArray below meth c H locs 0 0 QM (F0 m 57 ls []) := by
        intro  H locs hw hP hS ls hl
        refine lv_iconst (v := 0) hx hb dX5_isWord_57 (by decide) ?_
        subst hQM
        exact W.zret (v := 0) hx hb hr rfl (fun t ht hW => ⟨⟨_, (), rfl, ⟨false, rfl, hw⟩, P_at ht hP⟩, hS.F ht⟩) hS.2.2 dX5_isWord_58
      have EX28_65 : ∀  (H : Heap) (locs : List Loc), (wx_X5_isWord_28_65 Q)  → va_P (dC, dI) vwCl Wd H → va_S A s.heap H locs → ∀ (ls : Array Slot), lv_has ls 3 [] → W p l e (headSpec wqX5_isWord ({ frames := 10, cells := 0, slots := 0, locals := 120 })).room s m ([.ref a_this, .ref a_word] : List Value).toArray below meth c H locs 0 0 QM (F0 m 65 ls []) := by
        intro  H locs hw hP hS ls hl
        refine lv_iconst (v := 1) hx hb dX5_isWord_65 (by decide) ?_
        subst hQM
        exact W.zret (v := 1) hx hb hr rfl (fun t ht hW => ⟨⟨_, (), rfl, ⟨true, rfl, hw⟩, P_at ht hP⟩, hS.F ht⟩) hS.2.2 dX5_isWord_66
      have LOOP28 : ∀ (n28 : Nat) (v2_6 : Int32) (H : Heap) (locs : List Loc), wl_X5_isWord_28 wordPlace text_size text_bytes word_n word_f (wx_X5_isWord_28_57 Q) (wx_X5_isWord_28_65 Q) n28 v2_6 → va_P (dC, dI) vwCl Wd H → va_S A s.heap H locs → ∀ (ls : Array Slot), lv_has ls 3 [(0, .ref a_this), (1, .ref a_word), (2, .int v2_6)] → W p l e (headSpec wqX5_isWord ({ frames := 10, cells := 0, slots := 0, locals := 120 })).room s m ([.ref a_this, .ref a_word] : List Value).toArray below meth c H locs 0 0 QM (F0 m 28 ls []) := by
        intro n28
        induction n28 with
        | zero =>
          intro v2_6 H locs hw hP hS ls hl
          exact False.elim hw
        | succ n28 ih28 =>
          intro v2_6 H locs hw hP hS ls hl
          rw [wl_X5_isWord_28_s] at hw
          refine lv_iload_n hx hb dX5_isWord_28 rfl (lv_at hl 2 rfl) ?_
          refine lv_aload_n hx hb dX5_isWord_29 rfl (lv_at hl 1 rfl) ?_
          have hPs : va_P (dC, dI) vwCl (Wd ++ []) H := by rw [List.append_nil]; exact hP
          have hDs : va_D A (Wd ++ []) := by rw [List.append_nil]; exact hD
          have hPc : va_P (dC, dI) vwCl [] H := P_r hPs
          have hDc : va_D A [] := D_r hDs
          have hFc : ∀ q, va_A [] H.size q → A q := A_all hDc hA hS.1
          refine va_calli (va_runV (As := []) (rest := [.int v2_6]) ⟨hx, hb, hml, hown, hts⟩ (c_J0_length_8abf5 l dC dI g (a_this_ := a_word) (this__n := word_n) (this__f := word_f) (Q := fun r => r = nI word_n) (hw := len_w) (sz := H.size)) (cwV 0 hts (gqV aw_5_80 aw_5_81 aw_5_82 aw_1_21 aw_5_83) rfl rfl rfl (by decide +kernel) ⟨Nat.le_of_ble_eq_true rfl, Nat.le_of_ble_eq_true rfl⟩) ⟨PX_blind (GSb_go word_n word_f a_word), GSb_recv hT hS, PX_call (GSb_go word_n word_f a_word) hK hG hS hPc hDc hFc hT⟩ rfl rfl hl.1 rfl (lv_room (Nat.le_of_ble_eq_true rfl)) dX5_isWord_30 ⟨Nat.le_of_ble_eq_true rfl, Nat.le_of_ble_eq_true rfl⟩) hS (fun q _ h => hFc q h) hFc (fun r_7 u_7 t_7 H_7 L_7 ht_7 hvm_7 hw_7 hB_7 hz_7 hk_7 hS => ?_)
          rw [ht_7] at hB_7
          obtain ⟨hP1, hD1⟩ := hB_7
          obtain ⟨hP, hD⟩ := join_r hPs hDs hk_7 hFc hP1 hD1
          rw [List.append_nil] at hP hD
          have hP : va_P (dC, dI) vwCl Wd H_7 := hP
          have hD : va_D A Wd := hD
          obtain rfl : r_7 = nI word_n := hw_7
          refine lv_icmp_ge (tgt := 65) hx hb dX5_isWord_33 (by decide) (fun c_8 => ?_) (fun c_8 => ?_)
          · have hw := hw.1 c_8
            exact EX28_65  _ _ hw hP hS _ (lv_sub hl [] rfl)
          · have hw := hw.2 c_8
            refine lv_aload_n hx hb dX5_isWord_36 rfl (lv_at hl 0 rfl) ?_
            refine va_get (D := (dC, dI)) (ci := 7) (v := .ref a_text) (C := RX5) (T := TX5) (N := 13) hx hb hts hiX5 hown hK hP k_this w_this rfl 0 (by decide) hf12 (fun _ h9 => h9) rfl dX5_isWord_37 ?_
            refine lv_aload_n hx hb dX5_isWord_40 rfl (lv_at hl 0 rfl) ?_
            refine va_get (D := (dC, dI)) (ci := 7) (v := .int wordPlace) (C := RX5) (T := TX5) (N := 13) hx hb hts hiX5 hown hK hP k_this w_this rfl 4 (by decide) hf33 (fun _ h9 => h9) rfl dX5_isWord_41 ?_
            refine lv_iload_n hx hb dX5_isWord_44 rfl (lv_at hl 2 rfl) ?_
            refine lv_iadd hx hb dX5_isWord_45 ?_
            refine lv_topi (fun x_9 ex_9 => ?_)
            have hw := hw x_9 ex_9
            refine va_calli (va_runV (As := [.int x_9]) (rest := []) ⟨hx, hb, hml, hown, hts⟩ (c_X10_byteAt l dC dI g (Wd := Wd) (a_this := a_text) (a_bytes := a_text_bytes) (size := text_size) (bytes := text_bytes) (place := x_9) (k_this := k_text) (w_this := w_text) (k_bytes := k_text_bytes) (w_bytes := w_text_bytes) (hw := hw) (sz := H_7.size)) (cwV 1 hts (gqV aw_5_64 aw_5_65 aw_5_66 aw_1_11 aw_5_67) rfl rfl rfl (by decide +kernel) ⟨Nat.le_of_ble_eq_true rfl, Nat.le_of_ble_eq_true rfl⟩) ⟨PG_blind, va_recv hK hP (ci := 12) (q0 := k_text) rfl w_text, PG_call hK hG hS hP hD (A_all hD hA hS.1)⟩ rfl rfl hl.1 rfl (lv_room (Nat.le_of_ble_eq_true rfl)) dX5_isWord_46 ⟨Nat.le_of_ble_eq_true rfl, Nat.le_of_ble_eq_true rfl⟩) hS (fun q _ h => (A_all hD hA hS.1) q h) (A_all hD hA hS.1) (fun r_10 u_10 t_10 H_10 L_10 ht_10 hvm_10 hw_10 hB_10 hz_10 hk_10 hS => ?_)
            rw [ht_10] at hB_10
            have hP : va_P (dC, dI) vwCl Wd H_10 := hB_10
            have hw := hw_10
            refine lv_aload_n hx hb dX5_isWord_49 rfl (lv_at hl 1 rfl) ?_
            refine lv_iload_n hx hb dX5_isWord_50 rfl (lv_at hl 2 rfl) ?_
            have hPs : va_P (dC, dI) vwCl (Wd ++ []) H_10 := by rw [List.append_nil]; exact hP
            have hDs : va_D A (Wd ++ []) := by rw [List.append_nil]; exact hD
            have hPc : va_P (dC, dI) vwCl [] H_10 := P_r hPs
            have hDc : va_D A [] := D_r hDs
            have hFc : ∀ q, va_A [] H_10.size q → A q := A_all hDc hA hS.1
            have hin_11 := hw.1
            have hw := hw.2
            refine va_calli (va_runV (As := [.int v2_6]) (rest := [.int r_10]) ⟨hx, hb, hml, hown, hts⟩ (c_J0_charAt_5068e l dC dI g (a_this_ := a_word) (this__n := word_n) (this__f := word_f) (k_ := v2_6) (Q := fun r => r = word_f v2_6.toNatClampNeg &&& 255) (hw := chr_w hin_11 hn_3) (sz := H_10.size)) (cwV 1 hts (gqV aw_5_90 aw_5_91 aw_5_92 aw_1_21 aw_5_93) rfl rfl rfl (by decide +kernel) ⟨Nat.le_of_ble_eq_true rfl, Nat.le_of_ble_eq_true rfl⟩) ⟨PX_blind (GSb_go word_n word_f a_word), GSb_recv hT hS, PX_call (GSb_go word_n word_f a_word) hK hG hS hPc hDc hFc hT⟩ rfl rfl hl.1 rfl (lv_room (Nat.le_of_ble_eq_true rfl)) dX5_isWord_51 ⟨Nat.le_of_ble_eq_true rfl, Nat.le_of_ble_eq_true rfl⟩) hS (fun q _ h => hFc q h) hFc (fun r_11 u_11 t_11 H_11 L_11 ht_11 hvm_11 hw_11 hB_11 hz_11 hk_11 hS => ?_)
            rw [ht_11] at hB_11
            obtain ⟨hP1, hD1⟩ := hB_11
            obtain ⟨hP, hD⟩ := join_r hPs hDs hk_11 hFc hP1 hD1
            rw [List.append_nil] at hP hD
            have hP : va_P (dC, dI) vwCl Wd H_11 := hP
            have hD : va_D A Wd := hD
            have hw := hw r_11 hw_11.1
            refine lv_icmp_eq (tgt := 59) hx hb dX5_isWord_54 (by decide) (fun c_12 => ?_) (fun c_12 => ?_)
            · have hw := hw.1 c_12
              obtain ⟨x_13, ex_13⟩ : ∃ y : Int32, y = v2_6 + 1 := ⟨_, rfl⟩
              have hw := hw x_13 ex_13
              refine lv_iinc (v := x_13) (lv' := [(2, .int x_13), (0, .ref a_this), (1, .ref a_word)]) hx hb dX5_isWord_59 hl (k := 2) rfl (by rw [ex_13]; rfl) (by decide) rfl (fun ls hl => ?_)
              refine lv_goto (tgt := 28) hx hb dX5_isWord_62 (by decide) ?_
              exact ih28 x_13 _ _ hw hP hS _ (lv_sub hl [1, 2, 0] rfl)
            · have hw := hw.2 c_12
              exact EX28_57  _ _ hw hP hS _ (lv_sub hl [] rfl)
      obtain ⟨n28, hw⟩ := hw
      exact LOOP28 n28 0 _ _ hw hP hS _ (lv_sub hl [1, 2, 0] rfl)
    · have hw := hw.2 c_5
      refine lv_iconst (v := 0) hx hb dX5_isWord_24 (by decide) ?_
      exact W.zret (v := 0) hx hb hr rfl (fun t ht hW => ⟨⟨_, (), rfl, ⟨false, rfl, hw⟩, P_at ht hP⟩, hS.F ht⟩) hS.2.2 dX5_isWord_25
theorem dX5_restart_0 : decode cX5_restart 0 = .ok (.aload_n 0, 1) := by decide +kernel
theorem dX5_restart_1 : decode cX5_restart 1 = .ok (.iconst 0, 1) := by decide +kernel
theorem dX5_restart_2 : decode cX5_restart 2 = .ok (.putfield 36, 3) := by decide +kernel
theorem dX5_restart_5 : decode cX5_restart 5 = .ok (.aload_n 0, 1) := by decide +kernel
theorem dX5_restart_6 : decode cX5_restart 6 = .ok (.iconst 0, 1) := by decide +kernel
theorem dX5_restart_7 : decode cX5_restart 7 = .ok (.putfield 55, 3) := by decide +kernel
theorem dX5_restart_10 : decode cX5_restart 10 = .ok (.aload_n 0, 1) := by decide +kernel
theorem dX5_restart_11 : decode cX5_restart 11 = .ok (.iconst (-1), 1) := by decide +kernel
theorem dX5_restart_12 : decode cX5_restart 12 = .ok (.putfield 58, 3) := by decide +kernel
theorem dX5_restart_15 : decode cX5_restart 15 = .ok (.return_, 1) := by decide +kernel
abbrev Wa_X5_restart (a_this : Nat) (a_text : Nat) (a_operands : Nat) (a_told : Nat) (wordKind : Int32) (wordPlace : Int32) (wordEnd : Int32) (number : Int32) (statementPlace : Int32) (action : Int32) (how : Int32) (isLast : Bool) (faultKind : Int32) (faultPlace : Int32) : va_W := [(a_this, .inr (7, [.ref a_text, .ref a_operands, .ref a_told, .int wordKind, .int wordPlace, .int wordEnd, .int number, .int statementPlace, .int action, .int how, .int (b2i isLast), .int faultKind, .int faultPlace]))]
abbrev Wb_X5_restart (a_this : Nat) (a_text : Nat) (a_operands : Nat) (a_told : Nat) (wordKind : Int32) (wordPlace : Int32) (number : Int32) (statementPlace : Int32) (action : Int32) (how : Int32) (isLast : Bool) (u : Int32 × Int32 × Int32 × Unit) : va_W := [(a_this, .inr (7, [.ref a_text, .ref a_operands, .ref a_told, .int wordKind, .int wordPlace, .int u.1, .int number, .int statementPlace, .int action, .int how, .int (b2i isLast), .int u.2.1, .int u.2.2.1]))]
set_option maxHeartbeats 8000000 in
set_option maxRecDepth 100000 in
theorem c_X5_restart (l : Launch) (dC : Nat → ClassId) (dI : Nat → Nat → Nat) (g : Nat → ClassId) (a_this : Nat) (a_text : Nat) (a_operands : Nat) (a_told : Nat) (wordKind : Int32) (wordPlace : Int32) (wordEnd : Int32) (number : Int32) (statementPlace : Int32) (action : Int32) (how : Int32) (isLast : Bool) (faultKind : Int32) (faultPlace : Int32) (Q : Int32 → Int32 → Int32 → Prop) (hw : wp_X5_restart Q) (sz : Nat) : Met l yX5_restart wqX5_restart ({ frames := 0, cells := 0, slots := 0, locals := 0 }) (va_Pc [.ref a_this] (PG (dC, dI) g (Wa_X5_restart a_this a_text a_operands a_told wordKind wordPlace wordEnd number statementPlace action how isLast faultKind faultPlace) sz)) (va_Qv (fun (u : Int32 × Int32 × Int32 × Unit) => Q u.1 u.2.1 u.2.2.1) (fun (u : Int32 × Int32 × Int32 × Unit) t9 => va_P (dC, dI) vwCl (Wb_X5_restart a_this a_text a_operands a_told wordKind wordPlace number statementPlace action how isLast u) t9.heap ∧ va_D (va_A (Wa_X5_restart a_this a_text a_operands a_told wordKind wordPlace wordEnd number statementPlace action how isLast faultKind faultPlace) sz) (Wb_X5_restart a_this a_text a_operands a_told wordKind wordPlace number statementPlace action how isLast u)) (va_A (Wa_X5_restart a_this a_text a_operands a_told wordKind wordPlace wordEnd number statementPlace action how isLast faultKind faultPlace) sz)) 0 0 (va_A (Wa_X5_restart a_this a_text a_operands a_told wordKind wordPlace wordEnd number statementPlace action how isLast faultKind faultPlace) sz) := by
  refine Met.ofW (cc := cX5_restart) (maxL := 1) (ret := none) (by decide) rfl ?_
  intro p e s m args below meth c s₁ B hml hv
  obtain ⟨rfl, hsz, hP, hK, hD0, hG⟩ := hv
  have hx := B.exec
  have hb := B.bytes
  have hr := B.returns
  have hts := atoms_spec (ws := wqX5_restart) B.pre
  have hown : s.vm.findClass RX5 = some m.cls := findClass_of_methodNamed B.named
  have hlocks := B.notSynchronized
  subst hsz
  have hD := hD0.self (sz := s.heap.size)
  generalize hAe : va_A (Wa_X5_restart a_this a_text a_operands a_told wordKind wordPlace wordEnd number statementPlace action how isLast faultKind faultPlace) s.heap.size = A at hD hG ⊢
  have hA : ∀ q : Nat, s.heap.size ≤ q → A q := fun q h => by rw [← hAe]; exact Or.inr h
  have hS : va_S A s.heap s.heap [] := va_S.rf
  have hl := lv_entry ([.ref a_this]) (n := 1) (Nat.le_of_ble_eq_true rfl)
  rw [lg_entry_eq]
  generalize (lg_sl ([.ref a_this]) ++ List.replicate (1 - (lg_sl ([.ref a_this])).length) Slot.unset).toArray = ls at hl ⊢
  have hl : lv_has ls 1 [(0, .ref a_this)] := hl
  unfold wp_X5_restart at hw
  have hf36 := hts (Cond.fieldLink RX5 36 "RunmergeOffice$Reader" "wordEnd" "I") (aw_l aw_2_85)
  have hiX5 : ∀ w ∈ u_ws RX5 TX5 13, w ∈ wqX5_restart := fun w h => aw_l (aw_wsX50 w h)
  have hf55 := hts (Cond.fieldLink RX5 55 "RunmergeOffice$Reader" "faultKind" "I") (aw_l aw_2_95)
  have hf58 := hts (Cond.fieldLink RX5 58 "RunmergeOffice$Reader" "faultPlace" "I") (aw_l aw_2_97)
  refine lv_aload_n hx hb dX5_restart_0 rfl (lv_at hl 0 rfl) ?_
  refine lv_iconst (v := 0) hx hb dX5_restart_1 (by decide) ?_
  refine va_put (D := (dC, dI)) (ci := 7) (v := .int 0) (ty := .int) (C := RX5) (T := TX5) (N := 13) hx hb hts hiX5 tyX5 tyX5_ok nmX5 hown hK hP hD hS 0 rfl rfl 5 (by decide) hf36 (fun _ h9 => h9) rfl (by decide +kernel) rfl rfl (Nat.le_of_ble_eq_true rfl) dX5_restart_2 (fun H_1 L_2 hP hD hS => ?_)
  have hP : va_P (dC, dI) vwCl [(a_this, .inr (7, [.ref a_text, .ref a_operands, .ref a_told, .int wordKind, .int wordPlace, .int 0, .int number, .int statementPlace, .int action, .int how, .int (b2i isLast), .int faultKind, .int faultPlace]))] H_1 := hP
  have hD : va_D A [(a_this, .inr (7, [.ref a_text, .ref a_operands, .ref a_told, .int wordKind, .int wordPlace, .int 0, .int number, .int statementPlace, .int action, .int how, .int (b2i isLast), .int faultKind, .int faultPlace]))] := hD
  refine lv_aload_n hx hb dX5_restart_5 rfl (lv_at hl 0 rfl) ?_
  refine lv_iconst (v := 0) hx hb dX5_restart_6 (by decide) ?_
  refine va_put (D := (dC, dI)) (ci := 7) (v := .int 0) (ty := .int) (C := RX5) (T := TX5) (N := 13) hx hb hts hiX5 tyX5 tyX5_ok nmX5 hown hK hP hD hS 0 rfl rfl 11 (by decide) hf55 (fun _ h9 => h9) rfl (by decide +kernel) rfl rfl (Nat.le_of_ble_eq_true rfl) dX5_restart_7 (fun H_3 L_4 hP hD hS => ?_)
  have hP : va_P (dC, dI) vwCl [(a_this, .inr (7, [.ref a_text, .ref a_operands, .ref a_told, .int wordKind, .int wordPlace, .int 0, .int number, .int statementPlace, .int action, .int how, .int (b2i isLast), .int 0, .int faultPlace]))] H_3 := hP
  have hD : va_D A [(a_this, .inr (7, [.ref a_text, .ref a_operands, .ref a_told, .int wordKind, .int wordPlace, .int 0, .int number, .int statementPlace, .int action, .int how, .int (b2i isLast), .int 0, .int faultPlace]))] := hD
  refine lv_aload_n hx hb dX5_restart_10 rfl (lv_at hl 0 rfl) ?_
  refine lv_iconst (v := (-1)) hx hb dX5_restart_11 (by decide) ?_
  refine va_put (D := (dC, dI)) (ci := 7) (v := .int (-1)) (ty := .int) (C := RX5) (T := TX5) (N := 13) hx hb hts hiX5 tyX5 tyX5_ok nmX5 hown hK hP hD hS 0 rfl rfl 12 (by decide) hf58 (fun _ h9 => h9) rfl (by decide +kernel) rfl rfl (Nat.le_of_ble_eq_true rfl) dX5_restart_12 (fun H_5 L_6 hP hD hS => ?_)
  have hP : va_P (dC, dI) vwCl [(a_this, .inr (7, [.ref a_text, .ref a_operands, .ref a_told, .int wordKind, .int wordPlace, .int 0, .int number, .int statementPlace, .int action, .int how, .int (b2i isLast), .int 0, .int (-1)]))] H_5 := hP
  have hD : va_D A [(a_this, .inr (7, [.ref a_text, .ref a_operands, .ref a_told, .int wordKind, .int wordPlace, .int 0, .int number, .int statementPlace, .int action, .int how, .int (b2i isLast), .int 0, .int (-1)]))] := hD
  have hP9 := hP.sub (ws' := [(a_this, .inr (7, [.ref a_text, .ref a_operands, .ref a_told, .int wordKind, .int wordPlace, .int 0, .int number, .int statementPlace, .int action, .int how, .int (b2i isLast), .int 0, .int (-1)]))]) [0] rfl
  have hD9 := hD.sub (ws' := [(a_this, .inr (7, [.ref a_text, .ref a_operands, .ref a_told, .int wordKind, .int wordPlace, .int 0, .int number, .int statementPlace, .int action, .int how, .int (b2i isLast), .int 0, .int (-1)]))]) [0] (by decide) rfl
  exact W.vret hx hb hr (fun t ht hW => ⟨⟨(0, 0, (-1), ()), rfl, hw, ⟨P_at ht hP9, hD9⟩⟩, hS.F ht⟩) hS.2.2 dX5_restart_15
theorem dX5_tapeAt_0 : decode cX5_tapeAt 0 = .ok (.iload_n 1, 1) := by decide +kernel
theorem dX5_tapeAt_1 : decode cX5_tapeAt 1 = .ok (.ifCond .lt 21, 3) := by decide +kernel
theorem dX5_tapeAt_22 : decode cX5_tapeAt 22 = .ok (.iconst 0, 1) := by decide +kernel
theorem dX5_tapeAt_23 : decode cX5_tapeAt 23 = .ok (.ireturn, 1) := by decide +kernel
theorem dX5_tapeAt_4 : decode cX5_tapeAt 4 = .ok (.iload_n 1, 1) := by decide +kernel
theorem dX5_tapeAt_5 : decode cX5_tapeAt 5 = .ok (.aload_n 0, 1) := by decide +kernel
theorem dX5_tapeAt_6 : decode cX5_tapeAt 6 = .ok (.getfield 18, 3) := by decide +kernel
theorem dX5_tapeAt_9 : decode cX5_tapeAt 9 = .ok (.arraylength, 1) := by decide +kernel
theorem dX5_tapeAt_10 : decode cX5_tapeAt 10 = .ok (.if_icmp .ge 12, 3) := by decide +kernel
theorem dX5_tapeAt_13 : decode cX5_tapeAt 13 = .ok (.aload_n 0, 1) := by decide +kernel
theorem dX5_tapeAt_14 : decode cX5_tapeAt 14 = .ok (.getfield 18, 3) := by decide +kernel
theorem dX5_tapeAt_17 : decode cX5_tapeAt 17 = .ok (.iload_n 1, 1) := by decide +kernel
theorem dX5_tapeAt_18 : decode cX5_tapeAt 18 = .ok (.iaload, 1) := by decide +kernel
theorem dX5_tapeAt_19 : decode cX5_tapeAt 19 = .ok (.goto 4, 3) := by decide +kernel

set_option maxHeartbeats 8000000 in
set_option maxRecDepth 100000 in
theorem c_X5_tapeAt (l : Launch) (dC : Nat → ClassId) (dI : Nat → Nat → Nat) (g : Nat → ClassId) (Wd : va_W) (a_this : Nat) (a_text : Nat) (a_operands : Nat) (a_told : Nat) (wordKind : Int32) (wordPlace : Int32) (wordEnd : Int32) (number : Int32) (statementPlace : Int32) (action : Int32) (how : Int32) (isLast : Bool) (faultKind : Int32) (faultPlace : Int32) (operands : Nat → Int32) (slot : Int32) (k_this : Nat) (w_this : Wd[k_this]? = some (a_this, .inr (7, [.ref a_text, .ref a_operands, .ref a_told, .int wordKind, .int wordPlace, .int wordEnd, .int number, .int statementPlace, .int action, .int how, .int (b2i isLast), .int faultKind, .int faultPlace]))) (k_operands : Nat) (w_operands : Wd[k_operands]? = some (a_operands, .inl (g 0, 3, .inl operands))) (Q : Int32 → Prop) (hw : wp_X5_tapeAt operands slot Q) (sz : Nat) : Met l yX5_tapeAt wqX5_tapeAt ({ frames := 0, cells := 0, slots := 0, locals := 0 }) (va_Pc [.ref a_this, .int slot] (PG (dC, dI) g Wd sz)) (va_Qi (fun (r : Int32) (u : Unit) => Q r) (fun (u : Unit) t9 => va_P (dC, dI) vwCl Wd t9.heap) (va_A Wd sz)) 0 0 (va_A Wd sz) := by
  refine Met.ofW (cc := cX5_tapeAt) (maxL := 2) (ret := (some .int)) (by decide) rfl ?_
  intro p e s m args below meth c s₁ B hml hv
  obtain ⟨rfl, hsz, hP, hK, hD0, hG⟩ := hv
  have hx := B.exec
  have hb := B.bytes
  have hr := B.returns
  have hts := atoms_spec (ws := wqX5_tapeAt) B.pre
  have hown : s.vm.findClass RX5 = some m.cls := findClass_of_methodNamed B.named
  have hlocks := B.notSynchronized
  subst hsz
  have hD := hD0.self (sz := s.heap.size)
  generalize hAe : va_A Wd s.heap.size = A at hD hG ⊢
  have hA : ∀ q : Nat, s.heap.size ≤ q → A q := fun q h => by rw [← hAe]; exact Or.inr h
  have hS : va_S A s.heap s.heap [] := va_S.rf
  have hl := lv_entry ([.ref a_this, .int slot]) (n := 2) (Nat.le_of_ble_eq_true rfl)
  rw [lg_entry_eq]
  generalize (lg_sl ([.ref a_this, .int slot]) ++ List.replicate (2 - (lg_sl ([.ref a_this, .int slot])).length) Slot.unset).toArray = ls at hl ⊢
  have hl : lv_has ls 2 [(0, .ref a_this), (1, .int slot)] := hl
  unfold wp_X5_tapeAt at hw
  have hf18 := hts (Cond.fieldLink RX5 18 "RunmergeOffice$Reader" "operands" "[I") (aw_l aw_2_80)
  have hiX5 : ∀ w ∈ u_ws RX5 TX5 13, w ∈ wqX5_tapeAt := fun w h => aw_l (aw_wsX50 w h)
  refine lv_iload_n hx hb dX5_tapeAt_0 rfl (lv_at hl 1 rfl) ?_
  refine lv_if_lt (tgt := 22) hx hb dX5_tapeAt_1 (by decide) (fun c_1 => ?_) (fun c_1 => ?_)
  · have hw := hw.1 c_1
    refine lv_iconst (v := 0) hx hb dX5_tapeAt_22 (by decide) ?_
    exact W.iret (v := 0) hx hb hr (fun t ht hW => ⟨⟨0, (), rfl, hw, P_at ht hP⟩, hS.F ht⟩) hS.2.2 dX5_tapeAt_23
  · have hw := hw.2 c_1
    refine lv_iload_n hx hb dX5_tapeAt_4 rfl (lv_at hl 1 rfl) ?_
    refine lv_aload_n hx hb dX5_tapeAt_5 rfl (lv_at hl 0 rfl) ?_
    refine va_get (D := (dC, dI)) (ci := 7) (v := .ref a_operands) (C := RX5) (T := TX5) (N := 13) hx hb hts hiX5 hown hK hP k_this w_this rfl 1 (by decide) hf18 (fun _ h9 => h9) rfl dX5_tapeAt_6 ?_
    refine va_alen hx hb hK hP k_operands 0 w_operands rfl (v := 3) rfl dX5_tapeAt_9 ?_
    refine lv_icmp_ge (tgt := 22) hx hb dX5_tapeAt_10 (by decide) (fun c_2 => ?_) (fun c_2 => ?_)
    · have hw := hw.1 c_2
      refine lv_iconst (v := 0) hx hb dX5_tapeAt_22 (by decide) ?_
      exact W.iret (v := 0) hx hb hr (fun t ht hW => ⟨⟨0, (), rfl, hw, P_at ht hP⟩, hS.F ht⟩) hS.2.2 dX5_tapeAt_23
    · have hw := hw.2 c_2
      refine lv_aload_n hx hb dX5_tapeAt_13 rfl (lv_at hl 0 rfl) ?_
      refine va_get (D := (dC, dI)) (ci := 7) (v := .ref a_operands) (C := RX5) (T := TX5) (N := 13) hx hb hts hiX5 hown hK hP k_this w_this rfl 1 (by decide) hf18 (fun _ h9 => h9) rfl dX5_tapeAt_14 ?_
      refine lv_iload_n hx hb dX5_tapeAt_17 rfl (lv_at hl 1 rfl) ?_
      refine va_iald hx hb hK hP k_operands 0 w_operands rfl hw.1 dX5_tapeAt_18 ?_
      have hw := hw.2
      refine lv_topi (fun x_3 ex_3 => ?_)
      have hw := hw x_3 ex_3
      refine lv_goto (tgt := 23) hx hb dX5_tapeAt_19 (by decide) ?_
      exact W.iret (v := x_3) hx hb hr (fun t ht hW => ⟨⟨x_3, (), rfl, hw, P_at ht hP⟩, hS.F ht⟩) hS.2.2 dX5_tapeAt_23
theorem dX5_readNumber_0 : decode cX5_readNumber 0 = .ok (.aload_n 0, 1) := by decide +kernel
theorem dX5_readNumber_1 : decode cX5_readNumber 1 = .ok (.invokevirtual 61, 3) := by decide +kernel
theorem dX5_readNumber_4 : decode cX5_readNumber 4 = .ok (.aload_n 0, 1) := by decide +kernel
theorem dX5_readNumber_5 : decode cX5_readNumber 5 = .ok (.getfield 29, 3) := by decide +kernel
theorem dX5_readNumber_8 : decode cX5_readNumber 8 = .ok (.iconst 2, 1) := by decide +kernel
theorem dX5_readNumber_9 : decode cX5_readNumber 9 = .ok (.if_icmp .eq 9, 3) := by decide +kernel
theorem dX5_readNumber_18 : decode cX5_readNumber 18 = .ok (.aload_n 0, 1) := by decide +kernel
theorem dX5_readNumber_19 : decode cX5_readNumber 19 = .ok (.iconst 0, 1) := by decide +kernel
theorem dX5_readNumber_20 : decode cX5_readNumber 20 = .ok (.putfield 39, 3) := by decide +kernel
theorem dX5_readNumber_23 : decode cX5_readNumber 23 = .ok (.aload_n 0, 1) := by decide +kernel
theorem dX5_readNumber_24 : decode cX5_readNumber 24 = .ok (.getfield 33, 3) := by decide +kernel
theorem dX5_readNumber_27 : decode cX5_readNumber 27 = .ok (.istore_n 3, 1) := by decide +kernel
theorem dX5_readNumber_71 : decode cX5_readNumber 71 = .ok (.aload_n 0, 1) := by decide +kernel
theorem dX5_readNumber_72 : decode cX5_readNumber 72 = .ok (.getfield 39, 3) := by decide +kernel
theorem dX5_readNumber_75 : decode cX5_readNumber 75 = .ok (.iload_n 1, 1) := by decide +kernel
theorem dX5_readNumber_87 : decode cX5_readNumber 87 = .ok (.aload_n 0, 1) := by decide +kernel
theorem dX5_readNumber_88 : decode cX5_readNumber 88 = .ok (.iconst 2, 1) := by decide +kernel
theorem dX5_readNumber_89 : decode cX5_readNumber 89 = .ok (.invokevirtual 107, 3) := by decide +kernel
theorem dX5_readNumber_92 : decode cX5_readNumber 92 = .ok (.ifCond .eq 7, 3) := by decide +kernel
theorem dX5_readNumber_99 : decode cX5_readNumber 99 = .ok (.iconst 0, 1) := by decide +kernel
theorem dX5_readNumber_100 : decode cX5_readNumber 100 = .ok (.ireturn, 1) := by decide +kernel
theorem dX5_readNumber_95 : decode cX5_readNumber 95 = .ok (.iconst 1, 1) := by decide +kernel
theorem dX5_readNumber_96 : decode cX5_readNumber 96 = .ok (.goto 4, 3) := by decide +kernel
theorem dX5_readNumber_76 : decode cX5_readNumber 76 = .ok (.if_icmp .lt 11, 3) := by decide +kernel
theorem dX5_readNumber_79 : decode cX5_readNumber 79 = .ok (.aload_n 0, 1) := by decide +kernel
theorem dX5_readNumber_80 : decode cX5_readNumber 80 = .ok (.getfield 39, 3) := by decide +kernel
theorem dX5_readNumber_83 : decode cX5_readNumber 83 = .ok (.iload_n 2, 1) := by decide +kernel
theorem dX5_readNumber_84 : decode cX5_readNumber 84 = .ok (.if_icmp .le 11, 3) := by decide +kernel
theorem dX5_readNumber_28 : decode cX5_readNumber 28 = .ok (.iload_n 3, 1) := by decide +kernel
theorem dX5_readNumber_29 : decode cX5_readNumber 29 = .ok (.aload_n 0, 1) := by decide +kernel
theorem dX5_readNumber_30 : decode cX5_readNumber 30 = .ok (.getfield 36, 3) := by decide +kernel
theorem dX5_readNumber_33 : decode cX5_readNumber 33 = .ok (.if_icmp .ge 38, 3) := by decide +kernel
theorem dX5_readNumber_36 : decode cX5_readNumber 36 = .ok (.aload_n 0, 1) := by decide +kernel
theorem dX5_readNumber_37 : decode cX5_readNumber 37 = .ok (.sipush 1000, 3) := by decide +kernel
theorem dX5_readNumber_40 : decode cX5_readNumber 40 = .ok (.aload_n 0, 1) := by decide +kernel
theorem dX5_readNumber_41 : decode cX5_readNumber 41 = .ok (.getfield 39, 3) := by decide +kernel
theorem dX5_readNumber_44 : decode cX5_readNumber 44 = .ok (.bipush 10, 2) := by decide +kernel
theorem dX5_readNumber_46 : decode cX5_readNumber 46 = .ok (.imul, 1) := by decide +kernel
theorem dX5_readNumber_47 : decode cX5_readNumber 47 = .ok (.aload_n 0, 1) := by decide +kernel
theorem dX5_readNumber_48 : decode cX5_readNumber 48 = .ok (.getfield 12, 3) := by decide +kernel
theorem dX5_readNumber_51 : decode cX5_readNumber 51 = .ok (.iload_n 3, 1) := by decide +kernel
theorem dX5_readNumber_52 : decode cX5_readNumber 52 = .ok (.invokevirtual 156, 3) := by decide +kernel
theorem dX5_readNumber_55 : decode cX5_readNumber 55 = .ok (.iadd, 1) := by decide +kernel
theorem dX5_readNumber_56 : decode cX5_readNumber 56 = .ok (.bipush 48, 2) := by decide +kernel
theorem dX5_readNumber_58 : decode cX5_readNumber 58 = .ok (.isub, 1) := by decide +kernel
theorem dX5_readNumber_59 : decode cX5_readNumber 59 = .ok (.invokestatic 160, 3) := by decide +kernel
theorem dX5_readNumber_62 : decode cX5_readNumber 62 = .ok (.putfield 39, 3) := by decide +kernel
theorem dX5_readNumber_65 : decode cX5_readNumber 65 = .ok (.iinc 3 1, 3) := by decide +kernel
theorem dX5_readNumber_68 : decode cX5_readNumber 68 = .ok (.goto (-40), 3) := by decide +kernel
theorem dX5_readNumber_12 : decode cX5_readNumber 12 = .ok (.aload_n 0, 1) := by decide +kernel
theorem dX5_readNumber_13 : decode cX5_readNumber 13 = .ok (.iconst 1, 1) := by decide +kernel
theorem dX5_readNumber_14 : decode cX5_readNumber 14 = .ok (.invokevirtual 107, 3) := by decide +kernel
theorem dX5_readNumber_17 : decode cX5_readNumber 17 = .ok (.ireturn, 1) := by decide +kernel
abbrev Wa_X5_readNumber (g : Nat → ClassId) (a_this : Nat) (a_text : Nat) (a_operands : Nat) (a_told : Nat) (wordKind : Int32) (wordPlace : Int32) (wordEnd : Int32) (number : Int32) (statementPlace : Int32) (action : Int32) (how : Int32) (isLast : Bool) (faultKind : Int32) (faultPlace : Int32) (a_text_bytes : Nat) (text_size : Int32) (text_bytes : Nat → Int32) : va_W := [(a_this, .inr (7, [.ref a_text, .ref a_operands, .ref a_told, .int wordKind, .int wordPlace, .int wordEnd, .int number, .int statementPlace, .int action, .int how, .int (b2i isLast), .int faultKind, .int faultPlace])), (a_text, .inr (12, [.ref a_text_bytes, .int text_size])), (a_text_bytes, .inl (g 0, 160, .inl text_bytes))]
abbrev Wb_X5_readNumber (g : Nat → ClassId) (a_this : Nat) (a_text : Nat) (a_operands : Nat) (a_told : Nat) (statementPlace : Int32) (action : Int32) (how : Int32) (isLast : Bool) (a_text_bytes : Nat) (text_size : Int32) (text_bytes : Nat → Int32) (u : Int32 × Int32 × Int32 × Int32 × Int32 × Int32 × Unit) : va_W := [(a_this, .inr (7, [.ref a_text, .ref a_operands, .ref a_told, .int u.1, .int u.2.1, .int u.2.2.1, .int u.2.2.2.1, .int statementPlace, .int action, .int how, .int (b2i isLast), .int u.2.2.2.2.1, .int u.2.2.2.2.2.1])), (a_text, .inr (12, [.ref a_text_bytes, .int text_size])), (a_text_bytes, .inl (g 0, 160, .inl text_bytes))]
set_option maxHeartbeats 8000000 in
set_option maxRecDepth 100000 in
theorem c_X5_readNumber (l : Launch) (dC : Nat → ClassId) (dI : Nat → Nat → Nat) (g : Nat → ClassId) (a_this : Nat) (a_text : Nat) (a_operands : Nat) (a_told : Nat) (wordKind : Int32) (wordPlace : Int32) (wordEnd : Int32) (number : Int32) (statementPlace : Int32) (action : Int32) (how : Int32) (isLast : Bool) (faultKind : Int32) (faultPlace : Int32) (a_text_bytes : Nat) (text_size : Int32) (text_bytes : Nat → Int32) (least : Int32) (most : Int32) (Q : Bool → Int32 → Int32 → Int32 → Int32 → Int32 → Int32 → Prop) (hw : wp_X5_readNumber wordEnd number faultKind faultPlace text_size text_bytes least most Q) (sz : Nat) : Met l yX5_readNumber wqX5_readNumber ({ frames := 2, cells := 0, slots := 0, locals := 41 }) (va_Pc [.ref a_this, .int least, .int most] (PG (dC, dI) g (Wa_X5_readNumber g a_this a_text a_operands a_told wordKind wordPlace wordEnd number statementPlace action how isLast faultKind faultPlace a_text_bytes text_size text_bytes) sz)) (va_Qi (fun (r : Int32) (u : Int32 × Int32 × Int32 × Int32 × Int32 × Int32 × Unit) => ∃ b : Bool, r = b2i b ∧ Q b u.1 u.2.1 u.2.2.1 u.2.2.2.1 u.2.2.2.2.1 u.2.2.2.2.2.1) (fun (u : Int32 × Int32 × Int32 × Int32 × Int32 × Int32 × Unit) t9 => va_P (dC, dI) vwCl (Wb_X5_readNumber g a_this a_text a_operands a_told statementPlace action how isLast a_text_bytes text_size text_bytes u) t9.heap ∧ va_D (va_A (Wa_X5_readNumber g a_this a_text a_operands a_told wordKind wordPlace wordEnd number statementPlace action how isLast faultKind faultPlace a_text_bytes text_size text_bytes) sz) (Wb_X5_readNumber g a_this a_text a_operands a_told statementPlace action how isLast a_text_bytes text_size text_bytes u)) (va_A (Wa_X5_readNumber g a_this a_text a_operands a_told wordKind wordPlace wordEnd number statementPlace action how isLast faultKind faultPlace a_text_bytes text_size text_bytes) sz)) 0 0 (va_A (Wa_X5_readNumber g a_this a_text a_operands a_told wordKind wordPlace wordEnd number statementPlace action how isLast faultKind faultPlace a_text_bytes text_size text_bytes) sz) := by
  refine Met.ofW (cc := cX5_readNumber) (maxL := 4) (ret := (some .boolean)) (by decide) rfl ?_
  intro p e s m args below meth c s₁ B hml hv
  obtain ⟨rfl, hsz, hP, hK, hD0, hG⟩ := hv
  have hx := B.exec
  have hb := B.bytes
  have hr := B.returns
  have hts := atoms_spec (ws := wqX5_readNumber) B.pre
  have hown : s.vm.findClass RX5 = some m.cls := findClass_of_methodNamed B.named
  have hlocks := B.notSynchronized
  subst hsz
  have hD := hD0.self (sz := s.heap.size)
  generalize hAe : va_A (Wa_X5_readNumber g a_this a_text a_operands a_told wordKind wordPlace wordEnd number statementPlace action how isLast faultKind faultPlace a_text_bytes text_size text_bytes) s.heap.size = A at hD hG ⊢
  have hA : ∀ q : Nat, s.heap.size ≤ q → A q := fun q h => by rw [← hAe]; exact Or.inr h
  have hS : va_S A s.heap s.heap [] := va_S.rf
  have hl := lv_entry ([.ref a_this, .int least, .int most]) (n := 4) (Nat.le_of_ble_eq_true rfl)
  rw [lg_entry_eq]
  generalize (lg_sl ([.ref a_this, .int least, .int most]) ++ List.replicate (4 - (lg_sl ([.ref a_this, .int least, .int most])).length) Slot.unset).toArray = ls at hl ⊢
  have hl : lv_has ls 4 [(0, .ref a_this), (1, .int least), (2, .int most)] := hl
  unfold wp_X5_readNumber at hw
  have hf29 := hts (Cond.fieldLink RX5 29 "RunmergeOffice$Reader" "wordKind" "I") (aw_l aw_2_83)
  have hiX5 : ∀ w ∈ u_ws RX5 TX5 13, w ∈ wqX5_readNumber := fun w h => aw_l (aw_wsX50 w h)
  have hf39 := hts (Cond.fieldLink RX5 39 "RunmergeOffice$Reader" "number" "I") (aw_l aw_2_86)
  have hf33 := hts (Cond.fieldLink RX5 33 "RunmergeOffice$Reader" "wordPlace" "I") (aw_l aw_2_84)
  have hf36 := hts (Cond.fieldLink RX5 36 "RunmergeOffice$Reader" "wordEnd" "I") (aw_l aw_2_85)
  have hf12 := hts (Cond.fieldLink RX5 12 "RunmergeOffice$Reader" "text" "LRunmergeOffice$Text;") (aw_l aw_2_78)
  have hmmin160_0 := hts (Cond.methodLink RX5 160 Lib.Math.min.name) (aw_l aw_5_144)
  have hmmin160_1 := hts (Cond.static Lib.Math.min.name) (aw_l aw_3_141)
  have hmmin160_2 := hts (Cond.initialized "java/lang/Math") (aw_l aw_1_19)
  have hmmin160_3 := hts (Cond.code Lib.Math.min.name Lib.Math.min.code 2 (some .int)) (aw_l aw_3_142)
  refine lv_aload_n hx hb dX5_readNumber_0 rfl (lv_at hl 0 rfl) ?_
  have hPc := hP.sub (ws' := [(a_this, .inr (7, [.ref a_text, .ref a_operands, .ref a_told, .int wordKind, .int wordPlace, .int wordEnd, .int number, .int statementPlace, .int action, .int how, .int (b2i isLast), .int faultKind, .int faultPlace])), (a_text, .inr (12, [.ref a_text_bytes, .int text_size])), (a_text_bytes, .inl (g 0, 160, .inl text_bytes))]) [0, 1, 2] rfl
  have hDc := hD.sub (ws' := [(a_this, .inr (7, [.ref a_text, .ref a_operands, .ref a_told, .int wordKind, .int wordPlace, .int wordEnd, .int number, .int statementPlace, .int action, .int how, .int (b2i isLast), .int faultKind, .int faultPlace])), (a_text, .inr (12, [.ref a_text_bytes, .int text_size])), (a_text_bytes, .inl (g 0, 160, .inl text_bytes))]) [0, 1, 2] (by decide) rfl
  have hFc := va_free (wc := [(a_this, .inr (7, [.ref a_text, .ref a_operands, .ref a_told, .int wordKind, .int wordPlace, .int wordEnd, .int number, .int statementPlace, .int action, .int how, .int (b2i isLast), .int faultKind, .int faultPlace])), (a_text, .inr (12, [.ref a_text_bytes, .int text_size])), (a_text_bytes, .inl (g 0, 160, .inl text_bytes))]) hD hS hA [0, 1, 2] rfl
  refine va_callv (va_runV (As := []) (rest := []) ⟨hx, hb, hml, hown, hts⟩ (c_X5_readWord l dC dI g (a_this := a_this) (a_text := a_text) (a_operands := a_operands) (a_told := a_told) (wordKind := wordKind) (wordPlace := wordPlace) (wordEnd := wordEnd) (number := number) (statementPlace := statementPlace) (action := action) (how := how) (isLast := isLast) (faultKind := faultKind) (faultPlace := faultPlace) (a_text_bytes := a_text_bytes) (text_size := text_size) (text_bytes := text_bytes) (hw := hw) (sz := s.heap.size)) (cwV 0 hts (gqV aw_5_60 aw_5_62 aw_0_32 aw_1_10 aw_5_63) rfl rfl rfl (by decide +kernel) ⟨Nat.le_of_ble_eq_true rfl, Nat.le_of_ble_eq_true rfl⟩) ⟨PG_blind, va_recv hK hP (ci := 7) (q0 := 0) rfl rfl, PG_call hK hG hS hPc hDc hFc⟩ rfl rfl hl.1 rfl (lv_room (Nat.le_of_ble_eq_true rfl)) dX5_readNumber_1 ⟨Nat.le_of_ble_eq_true rfl, Nat.le_of_ble_eq_true rfl⟩) hS (fun q _ h => hFc q h) hFc (fun u_1 t_1 H_1 L_1 ht_1 hvm_1 hw_1 hB_1 hz_1 hk_1 hS => ?_)
  obtain ⟨wordKind_2, wordPlace_3, wordEnd_4, u_1⟩ := u_1
  obtain ⟨hP1, hD1⟩ := hB_1
  rw [ht_1] at hP1
  obtain ⟨hP, hD⟩ := va_join (wr := []) (w1 := [(a_this, .inr (7, [.ref a_text, .ref a_operands, .ref a_told, .int wordKind_2, .int wordPlace_3, .int wordEnd_4, .int number, .int statementPlace, .int action, .int how, .int (b2i isLast), .int faultKind, .int faultPlace])), (a_text, .inr (12, [.ref a_text_bytes, .int text_size])), (a_text_bytes, .inl (g 0, 160, .inl text_bytes))]) hP hD [0, 1, 2] [] rfl rfl (by decide) (by decide) hk_1 hFc hP1 hD1
  have hP : va_P (dC, dI) vwCl [(a_this, .inr (7, [.ref a_text, .ref a_operands, .ref a_told, .int wordKind_2, .int wordPlace_3, .int wordEnd_4, .int number, .int statementPlace, .int action, .int how, .int (b2i isLast), .int faultKind, .int faultPlace])), (a_text, .inr (12, [.ref a_text_bytes, .int text_size])), (a_text_bytes, .inl (g 0, 160, .inl text_bytes))] H_1 := hP
  have hD : va_D A [(a_this, .inr (7, [.ref a_text, .ref a_operands, .ref a_told, .int wordKind_2, .int wordPlace_3, .int wordEnd_4, .int number, .int statementPlace, .int action, .int how, .int (b2i isLast), .int faultKind, .int faultPlace])), (a_text, .inr (12, [.ref a_text_bytes, .int text_size])), (a_text_bytes, .inl (g 0, 160, .inl text_bytes))] := hD
  have hw := hw_1
  refine lv_aload_n hx hb dX5_readNumber_4 rfl (lv_at hl 0 rfl) ?_
  refine va_get (D := (dC, dI)) (ci := 7) (v := .int wordKind_2) (C := RX5) (T := TX5) (N := 13) hx hb hts hiX5 hown hK hP 0 rfl rfl 3 (by decide) hf29 (fun _ h9 => h9) rfl dX5_readNumber_5 ?_
  refine lv_iconst (v := 2) hx hb dX5_readNumber_8 (by decide) ?_
  refine lv_icmp_eq (tgt := 18) hx hb dX5_readNumber_9 (by decide) (fun c_5 => ?_) (fun c_5 => ?_)
  · have hw := hw.1 c_5
    refine lv_aload_n hx hb dX5_readNumber_18 rfl (lv_at hl 0 rfl) ?_
    refine lv_iconst (v := 0) hx hb dX5_readNumber_19 (by decide) ?_
    refine va_put (D := (dC, dI)) (ci := 7) (v := .int 0) (ty := .int) (C := RX5) (T := TX5) (N := 13) hx hb hts hiX5 tyX5 tyX5_ok nmX5 hown hK hP hD hS 0 rfl rfl 6 (by decide) hf39 (fun _ h9 => h9) rfl (by decide +kernel) rfl rfl (Nat.le_of_ble_eq_true rfl) dX5_readNumber_20 (fun H_6 L_7 hP hD hS => ?_)
    have hP : va_P (dC, dI) vwCl [(a_this, .inr (7, [.ref a_text, .ref a_operands, .ref a_told, .int wordKind_2, .int wordPlace_3, .int wordEnd_4, .int 0, .int statementPlace, .int action, .int how, .int (b2i isLast), .int faultKind, .int faultPlace])), (a_text, .inr (12, [.ref a_text_bytes, .int text_size])), (a_text_bytes, .inl (g 0, 160, .inl text_bytes))] H_6 := hP
    have hD : va_D A [(a_this, .inr (7, [.ref a_text, .ref a_operands, .ref a_told, .int wordKind_2, .int wordPlace_3, .int wordEnd_4, .int 0, .int statementPlace, .int action, .int how, .int (b2i isLast), .int faultKind, .int faultPlace])), (a_text, .inr (12, [.ref a_text_bytes, .int text_size])), (a_text_bytes, .inl (g 0, 160, .inl text_bytes))] := hD
    refine lv_aload_n hx hb dX5_readNumber_23 rfl (lv_at hl 0 rfl) ?_
    refine va_get (D := (dC, dI)) (ci := 7) (v := .int wordPlace_3) (C := RX5) (T := TX5) (N := 13) hx hb hts hiX5 hown hK hP 0 rfl rfl 4 (by decide) hf33 (fun _ h9 => h9) rfl dX5_readNumber_24 ?_
    refine lv_istore_n (lv' := [(3, .int wordPlace_3), (0, .ref a_this), (1, .int least), (2, .int most)]) hx hb dX5_readNumber_27 rfl hl (by decide) rfl (fun ls hl => ?_)
    refine W_abs (fun QM hQM => ?_)
    have EX28_71 : ∀ (number_10 : Int32) (H : Heap) (locs : List Loc), (wx_X5_readNumber_28_71 faultKind faultPlace least most Q wordKind_2 wordPlace_3 wordEnd_4) number_10 → va_P (dC, dI) vwCl [(a_this, .inr (7, [.ref a_text, .ref a_operands, .ref a_told, .int wordKind_2, .int wordPlace_3, .int wordEnd_4, .int number_10, .int statementPlace, .int action, .int how, .int (b2i isLast), .int faultKind, .int faultPlace])), (a_text, .inr (12, [.ref a_text_bytes, .int text_size])), (a_text_bytes, .inl (g 0, 160, .inl text_bytes))] H → va_D A [(a_this, .inr (7, [.ref a_text, .ref a_operands, .ref a_told, .int wordKind_2, .int wordPlace_3, .int wordEnd_4, .int number_10, .int statementPlace, .int action, .int how, .int (b2i isLast), .int faultKind, .int faultPlace])), (a_text, .inr (12, [.ref a_text_bytes, .int text_size])), (a_text_bytes, .inl (g 0, 160, .inl text_bytes))] → va_S A s.heap H locs → ∀ (ls : Array Slot), lv_has ls 4 [(0, .ref a_this), (1, .int least), (2, .int most)] → W p l e (headSpec wqX5_readNumber ({ frames := 2, cells := 0, slots := 0, locals := 41 })).room s m ([.ref a_this, .int least, .int most] : List Value).toArray below meth c H locs 0 0 QM (F0 m 71 ls []) := by
      intro number_10 H locs hw hP hD hS ls hl
      refine lv_aload_n hx hb dX5_readNumber_71 rfl (lv_at hl 0 rfl) ?_
      refine va_get (D := (dC, dI)) (ci := 7) (v := .int number_10) (C := RX5) (T := TX5) (N := 13) hx hb hts hiX5 hown hK hP 0 rfl rfl 6 (by decide) hf39 (fun _ h9 => h9) rfl dX5_readNumber_72 ?_
      refine lv_iload_n hx hb dX5_readNumber_75 rfl (lv_at hl 1 rfl) ?_
      have JN87 : ∀  (H : Heap) (locs : List Loc), (wj_X5_readNumber_87 Q wordKind_2 wordPlace_3 wordEnd_4 number_10)  → va_P (dC, dI) vwCl [(a_this, .inr (7, [.ref a_text, .ref a_operands, .ref a_told, .int wordKind_2, .int wordPlace_3, .int wordEnd_4, .int number_10, .int statementPlace, .int action, .int how, .int (b2i isLast), .int faultKind, .int faultPlace])), (a_text, .inr (12, [.ref a_text_bytes, .int text_size])), (a_text_bytes, .inl (g 0, 160, .inl text_bytes))] H → va_D A [(a_this, .inr (7, [.ref a_text, .ref a_operands, .ref a_told, .int wordKind_2, .int wordPlace_3, .int wordEnd_4, .int number_10, .int statementPlace, .int action, .int how, .int (b2i isLast), .int faultKind, .int faultPlace])), (a_text, .inr (12, [.ref a_text_bytes, .int text_size])), (a_text_bytes, .inl (g 0, 160, .inl text_bytes))] → va_S A s.heap H locs → ∀ (ls : Array Slot), lv_has ls 4 [(0, .ref a_this)] → W p l e (headSpec wqX5_readNumber ({ frames := 2, cells := 0, slots := 0, locals := 41 })).room s m ([.ref a_this, .int least, .int most] : List Value).toArray below meth c H locs 0 0 QM (F0 m 87 ls []) := by
        intro  H locs hw hP hD hS ls hl
        refine lv_aload_n hx hb dX5_readNumber_87 rfl (lv_at hl 0 rfl) ?_
        refine lv_iconst (v := 2) hx hb dX5_readNumber_88 (by decide) ?_
        have hPc := hP.sub (ws' := [(a_this, .inr (7, [.ref a_text, .ref a_operands, .ref a_told, .int wordKind_2, .int wordPlace_3, .int wordEnd_4, .int number_10, .int statementPlace, .int action, .int how, .int (b2i isLast), .int faultKind, .int faultPlace]))]) [0] rfl
        have hDc := hD.sub (ws' := [(a_this, .inr (7, [.ref a_text, .ref a_operands, .ref a_told, .int wordKind_2, .int wordPlace_3, .int wordEnd_4, .int number_10, .int statementPlace, .int action, .int how, .int (b2i isLast), .int faultKind, .int faultPlace]))]) [0] (by decide) rfl
        have hFc := va_free (wc := [(a_this, .inr (7, [.ref a_text, .ref a_operands, .ref a_told, .int wordKind_2, .int wordPlace_3, .int wordEnd_4, .int number_10, .int statementPlace, .int action, .int how, .int (b2i isLast), .int faultKind, .int faultPlace]))]) hD hS hA [0] rfl
        refine va_calli (va_runV (As := [.int 2]) (rest := []) ⟨hx, hb, hml, hown, hts⟩ (c_X5_refuse l dC dI g (a_this := a_this) (a_text := a_text) (a_operands := a_operands) (a_told := a_told) (wordKind := wordKind_2) (wordPlace := wordPlace_3) (wordEnd := wordEnd_4) (number := number_10) (statementPlace := statementPlace) (action := action) (how := how) (isLast := isLast) (faultKind := faultKind) (faultPlace := faultPlace) (kind := 2) (hw := hw) (sz := H.size)) (cwV 1 hts (gqV aw_5_140 aw_5_142 aw_0_37 aw_1_10 aw_5_143) rfl rfl rfl (by decide +kernel) ⟨Nat.le_of_ble_eq_true rfl, Nat.le_of_ble_eq_true rfl⟩) ⟨PG_blind, va_recv hK hP (ci := 7) (q0 := 0) rfl rfl, PG_call hK hG hS hPc hDc hFc⟩ rfl rfl hl.1 rfl (lv_room (Nat.le_of_ble_eq_true rfl)) dX5_readNumber_89 ⟨Nat.le_of_ble_eq_true rfl, Nat.le_of_ble_eq_true rfl⟩) hS (fun q _ h => hFc q h) hFc (fun r_11 u_11 t_11 H_11 L_11 ht_11 hvm_11 hw_11 hB_11 hz_11 hk_11 hS => ?_)
        obtain ⟨faultKind_12, faultPlace_13, u_11⟩ := u_11
        obtain ⟨hP1, hD1⟩ := hB_11
        rw [ht_11] at hP1
        obtain ⟨hP, hD⟩ := va_join (wr := [(a_text, .inr (12, [.ref a_text_bytes, .int text_size])), (a_text_bytes, .inl (g 0, 160, .inl text_bytes))]) (w1 := [(a_this, .inr (7, [.ref a_text, .ref a_operands, .ref a_told, .int wordKind_2, .int wordPlace_3, .int wordEnd_4, .int number_10, .int statementPlace, .int action, .int how, .int (b2i isLast), .int faultKind_12, .int faultPlace_13]))]) hP hD [0] [1, 2] rfl rfl (by decide) (by decide) hk_11 hFc hP1 hD1
        have hP : va_P (dC, dI) vwCl [(a_text, .inr (12, [.ref a_text_bytes, .int text_size])), (a_text_bytes, .inl (g 0, 160, .inl text_bytes)), (a_this, .inr (7, [.ref a_text, .ref a_operands, .ref a_told, .int wordKind_2, .int wordPlace_3, .int wordEnd_4, .int number_10, .int statementPlace, .int action, .int how, .int (b2i isLast), .int faultKind_12, .int faultPlace_13]))] H_11 := hP
        have hD : va_D A [(a_text, .inr (12, [.ref a_text_bytes, .int text_size])), (a_text_bytes, .inl (g 0, 160, .inl text_bytes)), (a_this, .inr (7, [.ref a_text, .ref a_operands, .ref a_told, .int wordKind_2, .int wordPlace_3, .int wordEnd_4, .int number_10, .int statementPlace, .int action, .int how, .int (b2i isLast), .int faultKind_12, .int faultPlace_13]))] := hD
        obtain ⟨b_11, rfl, hw⟩ := hw_11
        refine lv_if_eq (tgt := 99) hx hb dX5_readNumber_92 (by decide) (fun c_14 => ?_) (fun c_14 => ?_)
        · have hw := hw.1 (b2i_0 c_14)
          refine lv_iconst (v := 0) hx hb dX5_readNumber_99 (by decide) ?_
          subst hQM
          have hP9 := hP.sub (ws' := [(a_this, .inr (7, [.ref a_text, .ref a_operands, .ref a_told, .int wordKind_2, .int wordPlace_3, .int wordEnd_4, .int number_10, .int statementPlace, .int action, .int how, .int (b2i isLast), .int faultKind_12, .int faultPlace_13])), (a_text, .inr (12, [.ref a_text_bytes, .int text_size])), (a_text_bytes, .inl (g 0, 160, .inl text_bytes))]) [2, 0, 1] rfl
          have hD9 := hD.sub (ws' := [(a_this, .inr (7, [.ref a_text, .ref a_operands, .ref a_told, .int wordKind_2, .int wordPlace_3, .int wordEnd_4, .int number_10, .int statementPlace, .int action, .int how, .int (b2i isLast), .int faultKind_12, .int faultPlace_13])), (a_text, .inr (12, [.ref a_text_bytes, .int text_size])), (a_text_bytes, .inl (g 0, 160, .inl text_bytes))]) [2, 0, 1] (by decide) rfl
          exact W.zret (v := 0) hx hb hr rfl (fun t ht hW => ⟨⟨_, (wordKind_2, wordPlace_3, wordEnd_4, number_10, faultKind_12, faultPlace_13, ()), rfl, ⟨false, rfl, hw⟩, ⟨P_at ht hP9, hD9⟩⟩, hS.F ht⟩) hS.2.2 dX5_readNumber_100
        · have hw := hw.2 (b2i_1 c_14)
          refine lv_iconst (v := 1) hx hb dX5_readNumber_95 (by decide) ?_
          refine lv_goto (tgt := 100) hx hb dX5_readNumber_96 (by decide) ?_
          subst hQM
          have hP9 := hP.sub (ws' := [(a_this, .inr (7, [.ref a_text, .ref a_operands, .ref a_told, .int wordKind_2, .int wordPlace_3, .int wordEnd_4, .int number_10, .int statementPlace, .int action, .int how, .int (b2i isLast), .int faultKind_12, .int faultPlace_13])), (a_text, .inr (12, [.ref a_text_bytes, .int text_size])), (a_text_bytes, .inl (g 0, 160, .inl text_bytes))]) [2, 0, 1] rfl
          have hD9 := hD.sub (ws' := [(a_this, .inr (7, [.ref a_text, .ref a_operands, .ref a_told, .int wordKind_2, .int wordPlace_3, .int wordEnd_4, .int number_10, .int statementPlace, .int action, .int how, .int (b2i isLast), .int faultKind_12, .int faultPlace_13])), (a_text, .inr (12, [.ref a_text_bytes, .int text_size])), (a_text_bytes, .inl (g 0, 160, .inl text_bytes))]) [2, 0, 1] (by decide) rfl
          exact W.zret (v := 1) hx hb hr rfl (fun t ht hW => ⟨⟨_, (wordKind_2, wordPlace_3, wordEnd_4, number_10, faultKind_12, faultPlace_13, ()), rfl, ⟨true, rfl, hw⟩, ⟨P_at ht hP9, hD9⟩⟩, hS.F ht⟩) hS.2.2 dX5_readNumber_100
      refine lv_icmp_lt (tgt := 87) hx hb dX5_readNumber_76 (by decide) (fun c_15 => ?_) (fun c_15 => ?_)
      · have hw := hw.1 c_15
        exact JN87  _ _ hw (hP.sub [0, 1, 2] rfl) (hD.sub [0, 1, 2] (by decide) rfl) hS _ (lv_sub hl [0] rfl)
      · have hw := hw.2 c_15
        refine lv_aload_n hx hb dX5_readNumber_79 rfl (lv_at hl 0 rfl) ?_
        refine va_get (D := (dC, dI)) (ci := 7) (v := .int number_10) (C := RX5) (T := TX5) (N := 13) hx hb hts hiX5 hown hK hP 0 rfl rfl 6 (by decide) hf39 (fun _ h9 => h9) rfl dX5_readNumber_80 ?_
        refine lv_iload_n hx hb dX5_readNumber_83 rfl (lv_at hl 2 rfl) ?_
        refine lv_icmp_le (tgt := 95) hx hb dX5_readNumber_84 (by decide) (fun c_16 => ?_) (fun c_16 => ?_)
        · have hw := hw.1 c_16
          refine lv_iconst (v := 1) hx hb dX5_readNumber_95 (by decide) ?_
          refine lv_goto (tgt := 100) hx hb dX5_readNumber_96 (by decide) ?_
          subst hQM
          have hP9 := hP.sub (ws' := [(a_this, .inr (7, [.ref a_text, .ref a_operands, .ref a_told, .int wordKind_2, .int wordPlace_3, .int wordEnd_4, .int number_10, .int statementPlace, .int action, .int how, .int (b2i isLast), .int faultKind, .int faultPlace])), (a_text, .inr (12, [.ref a_text_bytes, .int text_size])), (a_text_bytes, .inl (g 0, 160, .inl text_bytes))]) [0, 1, 2] rfl
          have hD9 := hD.sub (ws' := [(a_this, .inr (7, [.ref a_text, .ref a_operands, .ref a_told, .int wordKind_2, .int wordPlace_3, .int wordEnd_4, .int number_10, .int statementPlace, .int action, .int how, .int (b2i isLast), .int faultKind, .int faultPlace])), (a_text, .inr (12, [.ref a_text_bytes, .int text_size])), (a_text_bytes, .inl (g 0, 160, .inl text_bytes))]) [0, 1, 2] (by decide) rfl
          exact W.zret (v := 1) hx hb hr rfl (fun t ht hW => ⟨⟨_, (wordKind_2, wordPlace_3, wordEnd_4, number_10, faultKind, faultPlace, ()), rfl, ⟨true, rfl, hw⟩, ⟨P_at ht hP9, hD9⟩⟩, hS.F ht⟩) hS.2.2 dX5_readNumber_100
        · have hw := hw.2 c_16
          exact JN87  _ _ hw (hP.sub [0, 1, 2] rfl) (hD.sub [0, 1, 2] (by decide) rfl) hS _ (lv_sub hl [0] rfl)
    have LOOP28 : ∀ (n28 : Nat) (v3_8 : Int32) (number_9 : Int32) (H : Heap) (locs : List Loc), wl_X5_readNumber_28 text_size text_bytes wordEnd_4 (wx_X5_readNumber_28_71 faultKind faultPlace least most Q wordKind_2 wordPlace_3 wordEnd_4) n28 v3_8 number_9 → va_P (dC, dI) vwCl [(a_this, .inr (7, [.ref a_text, .ref a_operands, .ref a_told, .int wordKind_2, .int wordPlace_3, .int wordEnd_4, .int number_9, .int statementPlace, .int action, .int how, .int (b2i isLast), .int faultKind, .int faultPlace])), (a_text, .inr (12, [.ref a_text_bytes, .int text_size])), (a_text_bytes, .inl (g 0, 160, .inl text_bytes))] H → va_D A [(a_this, .inr (7, [.ref a_text, .ref a_operands, .ref a_told, .int wordKind_2, .int wordPlace_3, .int wordEnd_4, .int number_9, .int statementPlace, .int action, .int how, .int (b2i isLast), .int faultKind, .int faultPlace])), (a_text, .inr (12, [.ref a_text_bytes, .int text_size])), (a_text_bytes, .inl (g 0, 160, .inl text_bytes))] → va_S A s.heap H locs → ∀ (ls : Array Slot), lv_has ls 4 [(0, .ref a_this), (1, .int least), (2, .int most), (3, .int v3_8)] → W p l e (headSpec wqX5_readNumber ({ frames := 2, cells := 0, slots := 0, locals := 41 })).room s m ([.ref a_this, .int least, .int most] : List Value).toArray below meth c H locs 0 0 QM (F0 m 28 ls []) := by
      intro n28
      induction n28 with
      | zero =>
        intro v3_8 number_9 H locs hw hP hD hS ls hl
        exact False.elim hw
      | succ n28 ih28 =>
        intro v3_8 number_9 H locs hw hP hD hS ls hl
        rw [wl_X5_readNumber_28_s] at hw
        refine lv_iload_n hx hb dX5_readNumber_28 rfl (lv_at hl 3 rfl) ?_
        refine lv_aload_n hx hb dX5_readNumber_29 rfl (lv_at hl 0 rfl) ?_
        refine va_get (D := (dC, dI)) (ci := 7) (v := .int wordEnd_4) (C := RX5) (T := TX5) (N := 13) hx hb hts hiX5 hown hK hP 0 rfl rfl 5 (by decide) hf36 (fun _ h9 => h9) rfl dX5_readNumber_30 ?_
        refine lv_icmp_ge (tgt := 71) hx hb dX5_readNumber_33 (by decide) (fun c_17 => ?_) (fun c_17 => ?_)
        · have hw := hw.1 c_17
          exact EX28_71 number_9 _ _ hw (hP.sub [0, 1, 2] rfl) (hD.sub [0, 1, 2] (by decide) rfl) hS _ (lv_sub hl [0, 1, 2] rfl)
        · have hw := hw.2 c_17
          refine lv_aload_n hx hb dX5_readNumber_36 rfl (lv_at hl 0 rfl) ?_
          refine lv_sipush (v := 1000) hx hb dX5_readNumber_37 (by decide) ?_
          refine lv_aload_n hx hb dX5_readNumber_40 rfl (lv_at hl 0 rfl) ?_
          refine va_get (D := (dC, dI)) (ci := 7) (v := .int number_9) (C := RX5) (T := TX5) (N := 13) hx hb hts hiX5 hown hK hP 0 rfl rfl 6 (by decide) hf39 (fun _ h9 => h9) rfl dX5_readNumber_41 ?_
          refine lv_bipush (v := 10) hx hb dX5_readNumber_44 (by decide) ?_
          refine lv_imul hx hb dX5_readNumber_46 ?_
          refine lv_topi (fun x_18 ex_18 => ?_)
          have hw := hw x_18 ex_18
          refine lv_aload_n hx hb dX5_readNumber_47 rfl (lv_at hl 0 rfl) ?_
          refine va_get (D := (dC, dI)) (ci := 7) (v := .ref a_text) (C := RX5) (T := TX5) (N := 13) hx hb hts hiX5 hown hK hP 0 rfl rfl 0 (by decide) hf12 (fun _ h9 => h9) rfl dX5_readNumber_48 ?_
          refine lv_iload_n hx hb dX5_readNumber_51 rfl (lv_at hl 3 rfl) ?_
          refine va_calli (va_runV (As := [.int v3_8]) (rest := [.int x_18, .int 1000, .ref a_this]) ⟨hx, hb, hml, hown, hts⟩ (c_X10_byteAt l dC dI g (Wd := [(a_this, .inr (7, [.ref a_text, .ref a_operands, .ref a_told, .int wordKind_2, .int wordPlace_3, .int wordEnd_4, .int number_9, .int statementPlace, .int action, .int how, .int (b2i isLast), .int faultKind, .int faultPlace])), (a_text, .inr (12, [.ref a_text_bytes, .int text_size])), (a_text_bytes, .inl (g 0, 160, .inl text_bytes))]) (a_this := a_text) (a_bytes := a_text_bytes) (size := text_size) (bytes := text_bytes) (place := v3_8) (k_this := 1) (w_this := rfl) (k_bytes := 2) (w_bytes := rfl) (hw := hw) (sz := H.size)) (cwV 1 hts (gqV aw_5_64 aw_5_65 aw_5_66 aw_1_11 aw_5_67) rfl rfl rfl (by decide +kernel) ⟨Nat.le_of_ble_eq_true rfl, Nat.le_of_ble_eq_true rfl⟩) ⟨PG_blind, va_recv hK hP (ci := 12) (q0 := 1) rfl rfl, PG_call hK hG hS hP hD (A_all hD hA hS.1)⟩ rfl rfl hl.1 rfl (lv_room (Nat.le_of_ble_eq_true rfl)) dX5_readNumber_52 ⟨Nat.le_of_ble_eq_true rfl, Nat.le_of_ble_eq_true rfl⟩) hS (fun q _ h => (A_all hD hA hS.1) q h) (A_all hD hA hS.1) (fun r_19 u_19 t_19 H_19 L_19 ht_19 hvm_19 hw_19 hB_19 hz_19 hk_19 hS => ?_)
          rw [ht_19] at hB_19
          have hP : va_P (dC, dI) vwCl [(a_this, .inr (7, [.ref a_text, .ref a_operands, .ref a_told, .int wordKind_2, .int wordPlace_3, .int wordEnd_4, .int number_9, .int statementPlace, .int action, .int how, .int (b2i isLast), .int faultKind, .int faultPlace])), (a_text, .inr (12, [.ref a_text_bytes, .int text_size])), (a_text_bytes, .inl (g 0, 160, .inl text_bytes))] H_19 := hB_19
          have hw := hw_19
          refine lv_iadd hx hb dX5_readNumber_55 ?_
          refine lv_topi (fun x_20 ex_20 => ?_)
          have hw := hw x_20 ex_20
          refine lv_bipush (v := 48) hx hb dX5_readNumber_56 (by decide) ?_
          refine lv_isub hx hb dX5_readNumber_58 ?_
          refine lv_topi (fun x_21 ex_21 => ?_)
          have hw := hw x_21 ex_21
          refine va_mmin hx hb (hml.trans hl.1.symm) hown hmmin160_0 hmmin160_1 hmmin160_2 hmmin160_3 (Nat.le_of_ble_eq_true rfl) (Nat.le_of_ble_eq_true rfl) (Nat.le_of_ble_eq_true rfl) (Nat.le_of_ble_eq_true rfl) dX5_readNumber_59 ?_
          refine lv_topi (fun x_22 ex_22 => ?_)
          have hw := hw x_22 ex_22
          refine va_put (D := (dC, dI)) (ci := 7) (v := .int x_22) (ty := .int) (C := RX5) (T := TX5) (N := 13) hx hb hts hiX5 tyX5 tyX5_ok nmX5 hown hK hP hD hS 0 rfl rfl 6 (by decide) hf39 (fun _ h9 => h9) rfl (by decide +kernel) rfl rfl (Nat.le_of_ble_eq_true rfl) dX5_readNumber_62 (fun H_23 L_24 hP hD hS => ?_)
          have hP : va_P (dC, dI) vwCl [(a_this, .inr (7, [.ref a_text, .ref a_operands, .ref a_told, .int wordKind_2, .int wordPlace_3, .int wordEnd_4, .int x_22, .int statementPlace, .int action, .int how, .int (b2i isLast), .int faultKind, .int faultPlace])), (a_text, .inr (12, [.ref a_text_bytes, .int text_size])), (a_text_bytes, .inl (g 0, 160, .inl text_bytes))] H_23 := hP
          have hD : va_D A [(a_this, .inr (7, [.ref a_text, .ref a_operands, .ref a_told, .int wordKind_2, .int wordPlace_3, .int wordEnd_4, .int x_22, .int statementPlace, .int action, .int how, .int (b2i isLast), .int faultKind, .int faultPlace])), (a_text, .inr (12, [.ref a_text_bytes, .int text_size])), (a_text_bytes, .inl (g 0, 160, .inl text_bytes))] := hD
          obtain ⟨x_25, ex_25⟩ : ∃ y : Int32, y = v3_8 + 1 := ⟨_, rfl⟩
          have hw := hw x_25 ex_25
          refine lv_iinc (v := x_25) (lv' := [(3, .int x_25), (0, .ref a_this), (1, .int least), (2, .int most)]) hx hb dX5_readNumber_65 hl (k := 3) rfl (by rw [ex_25]; rfl) (by decide) rfl (fun ls hl => ?_)
          refine lv_goto (tgt := 28) hx hb dX5_readNumber_68 (by decide) ?_
          exact ih28 x_25 x_22 _ _ hw (hP.sub [0, 1, 2] rfl) (hD.sub [0, 1, 2] (by decide) rfl) hS _ (lv_sub hl [1, 2, 3, 0] rfl)
    obtain ⟨n28, hw⟩ := hw
    exact LOOP28 n28 wordPlace_3 0 _ _ hw (hP.sub [0, 1, 2] rfl) (hD.sub [0, 1, 2] (by decide) rfl) hS _ (lv_sub hl [1, 2, 3, 0] rfl)
  · have hw := hw.2 c_5
    refine lv_aload_n hx hb dX5_readNumber_12 rfl (lv_at hl 0 rfl) ?_
    refine lv_iconst (v := 1) hx hb dX5_readNumber_13 (by decide) ?_
    have hPc := hP.sub (ws' := [(a_this, .inr (7, [.ref a_text, .ref a_operands, .ref a_told, .int wordKind_2, .int wordPlace_3, .int wordEnd_4, .int number, .int statementPlace, .int action, .int how, .int (b2i isLast), .int faultKind, .int faultPlace]))]) [0] rfl
    have hDc := hD.sub (ws' := [(a_this, .inr (7, [.ref a_text, .ref a_operands, .ref a_told, .int wordKind_2, .int wordPlace_3, .int wordEnd_4, .int number, .int statementPlace, .int action, .int how, .int (b2i isLast), .int faultKind, .int faultPlace]))]) [0] (by decide) rfl
    have hFc := va_free (wc := [(a_this, .inr (7, [.ref a_text, .ref a_operands, .ref a_told, .int wordKind_2, .int wordPlace_3, .int wordEnd_4, .int number, .int statementPlace, .int action, .int how, .int (b2i isLast), .int faultKind, .int faultPlace]))]) hD hS hA [0] rfl
    refine va_calli (va_runV (As := [.int 1]) (rest := []) ⟨hx, hb, hml, hown, hts⟩ (c_X5_refuse l dC dI g (a_this := a_this) (a_text := a_text) (a_operands := a_operands) (a_told := a_told) (wordKind := wordKind_2) (wordPlace := wordPlace_3) (wordEnd := wordEnd_4) (number := number) (statementPlace := statementPlace) (action := action) (how := how) (isLast := isLast) (faultKind := faultKind) (faultPlace := faultPlace) (kind := 1) (hw := hw) (sz := H_1.size)) (cwV 1 hts (gqV aw_5_140 aw_5_142 aw_0_37 aw_1_10 aw_5_143) rfl rfl rfl (by decide +kernel) ⟨Nat.le_of_ble_eq_true rfl, Nat.le_of_ble_eq_true rfl⟩) ⟨PG_blind, va_recv hK hP (ci := 7) (q0 := 0) rfl rfl, PG_call hK hG hS hPc hDc hFc⟩ rfl rfl hl.1 rfl (lv_room (Nat.le_of_ble_eq_true rfl)) dX5_readNumber_14 ⟨Nat.le_of_ble_eq_true rfl, Nat.le_of_ble_eq_true rfl⟩) hS (fun q _ h => hFc q h) hFc (fun r_26 u_26 t_26 H_26 L_26 ht_26 hvm_26 hw_26 hB_26 hz_26 hk_26 hS => ?_)
    obtain ⟨faultKind_27, faultPlace_28, u_26⟩ := u_26
    obtain ⟨hP1, hD1⟩ := hB_26
    rw [ht_26] at hP1
    obtain ⟨hP, hD⟩ := va_join (wr := [(a_text, .inr (12, [.ref a_text_bytes, .int text_size])), (a_text_bytes, .inl (g 0, 160, .inl text_bytes))]) (w1 := [(a_this, .inr (7, [.ref a_text, .ref a_operands, .ref a_told, .int wordKind_2, .int wordPlace_3, .int wordEnd_4, .int number, .int statementPlace, .int action, .int how, .int (b2i isLast), .int faultKind_27, .int faultPlace_28]))]) hP hD [0] [1, 2] rfl rfl (by decide) (by decide) hk_26 hFc hP1 hD1
    have hP : va_P (dC, dI) vwCl [(a_text, .inr (12, [.ref a_text_bytes, .int text_size])), (a_text_bytes, .inl (g 0, 160, .inl text_bytes)), (a_this, .inr (7, [.ref a_text, .ref a_operands, .ref a_told, .int wordKind_2, .int wordPlace_3, .int wordEnd_4, .int number, .int statementPlace, .int action, .int how, .int (b2i isLast), .int faultKind_27, .int faultPlace_28]))] H_26 := hP
    have hD : va_D A [(a_text, .inr (12, [.ref a_text_bytes, .int text_size])), (a_text_bytes, .inl (g 0, 160, .inl text_bytes)), (a_this, .inr (7, [.ref a_text, .ref a_operands, .ref a_told, .int wordKind_2, .int wordPlace_3, .int wordEnd_4, .int number, .int statementPlace, .int action, .int how, .int (b2i isLast), .int faultKind_27, .int faultPlace_28]))] := hD
    obtain ⟨b_26, rfl, hw⟩ := hw_26
    have hP9 := hP.sub (ws' := [(a_this, .inr (7, [.ref a_text, .ref a_operands, .ref a_told, .int wordKind_2, .int wordPlace_3, .int wordEnd_4, .int number, .int statementPlace, .int action, .int how, .int (b2i isLast), .int faultKind_27, .int faultPlace_28])), (a_text, .inr (12, [.ref a_text_bytes, .int text_size])), (a_text_bytes, .inl (g 0, 160, .inl text_bytes))]) [2, 0, 1] rfl
    have hD9 := hD.sub (ws' := [(a_this, .inr (7, [.ref a_text, .ref a_operands, .ref a_told, .int wordKind_2, .int wordPlace_3, .int wordEnd_4, .int number, .int statementPlace, .int action, .int how, .int (b2i isLast), .int faultKind_27, .int faultPlace_28])), (a_text, .inr (12, [.ref a_text_bytes, .int text_size])), (a_text_bytes, .inl (g 0, 160, .inl text_bytes))]) [2, 0, 1] (by decide) rfl
    exact W.zret (v := (b2i b_26)) hx hb hr (nar_b2i _) (fun t ht hW => ⟨⟨_, (wordKind_2, wordPlace_3, wordEnd_4, number, faultKind_27, faultPlace_28, ()), rfl, ⟨b_26, rfl, hw⟩, ⟨P_at ht hP9, hD9⟩⟩, hS.F ht⟩) hS.2.2 dX5_readNumber_17
theorem dX5_readSign_0 : decode cX5_readSign 0 = .ok (.aload_n 0, 1) := by decide +kernel
theorem dX5_readSign_1 : decode cX5_readSign 1 = .ok (.invokevirtual 61, 3) := by decide +kernel
theorem dX5_readSign_4 : decode cX5_readSign 4 = .ok (.aload_n 0, 1) := by decide +kernel
theorem dX5_readSign_5 : decode cX5_readSign 5 = .ok (.getfield 29, 3) := by decide +kernel
theorem dX5_readSign_8 : decode cX5_readSign 8 = .ok (.iconst 3, 1) := by decide +kernel
theorem dX5_readSign_9 : decode cX5_readSign 9 = .ok (.if_icmp .eq 11, 3) := by decide +kernel
theorem dX5_readSign_20 : decode cX5_readSign 20 = .ok (.iconst 1, 1) := by decide +kernel
theorem dX5_readSign_21 : decode cX5_readSign 21 = .ok (.goto 4, 3) := by decide +kernel
theorem dX5_readSign_25 : decode cX5_readSign 25 = .ok (.ireturn, 1) := by decide +kernel
theorem dX5_readSign_12 : decode cX5_readSign 12 = .ok (.aload_n 0, 1) := by decide +kernel
theorem dX5_readSign_13 : decode cX5_readSign 13 = .ok (.iconst 1, 1) := by decide +kernel
theorem dX5_readSign_14 : decode cX5_readSign 14 = .ok (.invokevirtual 107, 3) := by decide +kernel
theorem dX5_readSign_17 : decode cX5_readSign 17 = .ok (.ifCond .eq 7, 3) := by decide +kernel
theorem dX5_readSign_24 : decode cX5_readSign 24 = .ok (.iconst 0, 1) := by decide +kernel
abbrev Wa_X5_readSign (g : Nat → ClassId) (a_this : Nat) (a_text : Nat) (a_operands : Nat) (a_told : Nat) (wordKind : Int32) (wordPlace : Int32) (wordEnd : Int32) (number : Int32) (statementPlace : Int32) (action : Int32) (how : Int32) (isLast : Bool) (faultKind : Int32) (faultPlace : Int32) (a_text_bytes : Nat) (text_size : Int32) (text_bytes : Nat → Int32) : va_W := [(a_this, .inr (7, [.ref a_text, .ref a_operands, .ref a_told, .int wordKind, .int wordPlace, .int wordEnd, .int number, .int statementPlace, .int action, .int how, .int (b2i isLast), .int faultKind, .int faultPlace])), (a_text, .inr (12, [.ref a_text_bytes, .int text_size])), (a_text_bytes, .inl (g 0, 160, .inl text_bytes))]
abbrev Wb_X5_readSign (g : Nat → ClassId) (a_this : Nat) (a_text : Nat) (a_operands : Nat) (a_told : Nat) (number : Int32) (statementPlace : Int32) (action : Int32) (how : Int32) (isLast : Bool) (a_text_bytes : Nat) (text_size : Int32) (text_bytes : Nat → Int32) (u : Int32 × Int32 × Int32 × Int32 × Int32 × Unit) : va_W := [(a_this, .inr (7, [.ref a_text, .ref a_operands, .ref a_told, .int u.1, .int u.2.1, .int u.2.2.1, .int number, .int statementPlace, .int action, .int how, .int (b2i isLast), .int u.2.2.2.1, .int u.2.2.2.2.1])), (a_text, .inr (12, [.ref a_text_bytes, .int text_size])), (a_text_bytes, .inl (g 0, 160, .inl text_bytes))]
set_option maxHeartbeats 8000000 in
set_option maxRecDepth 100000 in
theorem c_X5_readSign (l : Launch) (dC : Nat → ClassId) (dI : Nat → Nat → Nat) (g : Nat → ClassId) (a_this : Nat) (a_text : Nat) (a_operands : Nat) (a_told : Nat) (wordKind : Int32) (wordPlace : Int32) (wordEnd : Int32) (number : Int32) (statementPlace : Int32) (action : Int32) (how : Int32) (isLast : Bool) (faultKind : Int32) (faultPlace : Int32) (a_text_bytes : Nat) (text_size : Int32) (text_bytes : Nat → Int32) (Q : Bool → Int32 → Int32 → Int32 → Int32 → Int32 → Prop) (hw : wp_X5_readSign wordEnd faultKind faultPlace text_size text_bytes Q) (sz : Nat) : Met l yX5_readSign wqX5_readSign ({ frames := 2, cells := 0, slots := 0, locals := 41 }) (va_Pc [.ref a_this] (PG (dC, dI) g (Wa_X5_readSign g a_this a_text a_operands a_told wordKind wordPlace wordEnd number statementPlace action how isLast faultKind faultPlace a_text_bytes text_size text_bytes) sz)) (va_Qi (fun (r : Int32) (u : Int32 × Int32 × Int32 × Int32 × Int32 × Unit) => ∃ b : Bool, r = b2i b ∧ Q b u.1 u.2.1 u.2.2.1 u.2.2.2.1 u.2.2.2.2.1) (fun (u : Int32 × Int32 × Int32 × Int32 × Int32 × Unit) t9 => va_P (dC, dI) vwCl (Wb_X5_readSign g a_this a_text a_operands a_told number statementPlace action how isLast a_text_bytes text_size text_bytes u) t9.heap ∧ va_D (va_A (Wa_X5_readSign g a_this a_text a_operands a_told wordKind wordPlace wordEnd number statementPlace action how isLast faultKind faultPlace a_text_bytes text_size text_bytes) sz) (Wb_X5_readSign g a_this a_text a_operands a_told number statementPlace action how isLast a_text_bytes text_size text_bytes u)) (va_A (Wa_X5_readSign g a_this a_text a_operands a_told wordKind wordPlace wordEnd number statementPlace action how isLast faultKind faultPlace a_text_bytes text_size text_bytes) sz)) 0 0 (va_A (Wa_X5_readSign g a_this a_text a_operands a_told wordKind wordPlace wordEnd number statementPlace action how isLast faultKind faultPlace a_text_bytes text_size text_bytes) sz) := by
  refine Met.ofW (cc := cX5_readSign) (maxL := 1) (ret := (some .boolean)) (by decide) rfl ?_
  intro p e s m args below meth c s₁ B hml hv
  obtain ⟨rfl, hsz, hP, hK, hD0, hG⟩ := hv
  have hx := B.exec
  have hb := B.bytes
  have hr := B.returns
  have hts := atoms_spec (ws := wqX5_readSign) B.pre
  have hown : s.vm.findClass RX5 = some m.cls := findClass_of_methodNamed B.named
  have hlocks := B.notSynchronized
  subst hsz
  have hD := hD0.self (sz := s.heap.size)
  generalize hAe : va_A (Wa_X5_readSign g a_this a_text a_operands a_told wordKind wordPlace wordEnd number statementPlace action how isLast faultKind faultPlace a_text_bytes text_size text_bytes) s.heap.size = A at hD hG ⊢
  have hA : ∀ q : Nat, s.heap.size ≤ q → A q := fun q h => by rw [← hAe]; exact Or.inr h
  have hS : va_S A s.heap s.heap [] := va_S.rf
  have hl := lv_entry ([.ref a_this]) (n := 1) (Nat.le_of_ble_eq_true rfl)
  rw [lg_entry_eq]
  generalize (lg_sl ([.ref a_this]) ++ List.replicate (1 - (lg_sl ([.ref a_this])).length) Slot.unset).toArray = ls at hl ⊢
  have hl : lv_has ls 1 [(0, .ref a_this)] := hl
  unfold wp_X5_readSign at hw
  have hf29 := hts (Cond.fieldLink RX5 29 "RunmergeOffice$Reader" "wordKind" "I") (aw_l aw_2_83)
  have hiX5 : ∀ w ∈ u_ws RX5 TX5 13, w ∈ wqX5_readSign := fun w h => aw_l (aw_wsX50 w h)
  refine lv_aload_n hx hb dX5_readSign_0 rfl (lv_at hl 0 rfl) ?_
  have hPc := hP.sub (ws' := [(a_this, .inr (7, [.ref a_text, .ref a_operands, .ref a_told, .int wordKind, .int wordPlace, .int wordEnd, .int number, .int statementPlace, .int action, .int how, .int (b2i isLast), .int faultKind, .int faultPlace])), (a_text, .inr (12, [.ref a_text_bytes, .int text_size])), (a_text_bytes, .inl (g 0, 160, .inl text_bytes))]) [0, 1, 2] rfl
  have hDc := hD.sub (ws' := [(a_this, .inr (7, [.ref a_text, .ref a_operands, .ref a_told, .int wordKind, .int wordPlace, .int wordEnd, .int number, .int statementPlace, .int action, .int how, .int (b2i isLast), .int faultKind, .int faultPlace])), (a_text, .inr (12, [.ref a_text_bytes, .int text_size])), (a_text_bytes, .inl (g 0, 160, .inl text_bytes))]) [0, 1, 2] (by decide) rfl
  have hFc := va_free (wc := [(a_this, .inr (7, [.ref a_text, .ref a_operands, .ref a_told, .int wordKind, .int wordPlace, .int wordEnd, .int number, .int statementPlace, .int action, .int how, .int (b2i isLast), .int faultKind, .int faultPlace])), (a_text, .inr (12, [.ref a_text_bytes, .int text_size])), (a_text_bytes, .inl (g 0, 160, .inl text_bytes))]) hD hS hA [0, 1, 2] rfl
  refine va_callv (va_runV (As := []) (rest := []) ⟨hx, hb, hml, hown, hts⟩ (c_X5_readWord l dC dI g (a_this := a_this) (a_text := a_text) (a_operands := a_operands) (a_told := a_told) (wordKind := wordKind) (wordPlace := wordPlace) (wordEnd := wordEnd) (number := number) (statementPlace := statementPlace) (action := action) (how := how) (isLast := isLast) (faultKind := faultKind) (faultPlace := faultPlace) (a_text_bytes := a_text_bytes) (text_size := text_size) (text_bytes := text_bytes) (hw := hw) (sz := s.heap.size)) (cwV 0 hts (gqV aw_5_60 aw_5_62 aw_0_32 aw_1_10 aw_5_63) rfl rfl rfl (by decide +kernel) ⟨Nat.le_of_ble_eq_true rfl, Nat.le_of_ble_eq_true rfl⟩) ⟨PG_blind, va_recv hK hP (ci := 7) (q0 := 0) rfl rfl, PG_call hK hG hS hPc hDc hFc⟩ rfl rfl hl.1 rfl (lv_room (Nat.le_of_ble_eq_true rfl)) dX5_readSign_1 ⟨Nat.le_of_ble_eq_true rfl, Nat.le_of_ble_eq_true rfl⟩) hS (fun q _ h => hFc q h) hFc (fun u_1 t_1 H_1 L_1 ht_1 hvm_1 hw_1 hB_1 hz_1 hk_1 hS => ?_)
  obtain ⟨wordKind_2, wordPlace_3, wordEnd_4, u_1⟩ := u_1
  obtain ⟨hP1, hD1⟩ := hB_1
  rw [ht_1] at hP1
  obtain ⟨hP, hD⟩ := va_join (wr := []) (w1 := [(a_this, .inr (7, [.ref a_text, .ref a_operands, .ref a_told, .int wordKind_2, .int wordPlace_3, .int wordEnd_4, .int number, .int statementPlace, .int action, .int how, .int (b2i isLast), .int faultKind, .int faultPlace])), (a_text, .inr (12, [.ref a_text_bytes, .int text_size])), (a_text_bytes, .inl (g 0, 160, .inl text_bytes))]) hP hD [0, 1, 2] [] rfl rfl (by decide) (by decide) hk_1 hFc hP1 hD1
  have hP : va_P (dC, dI) vwCl [(a_this, .inr (7, [.ref a_text, .ref a_operands, .ref a_told, .int wordKind_2, .int wordPlace_3, .int wordEnd_4, .int number, .int statementPlace, .int action, .int how, .int (b2i isLast), .int faultKind, .int faultPlace])), (a_text, .inr (12, [.ref a_text_bytes, .int text_size])), (a_text_bytes, .inl (g 0, 160, .inl text_bytes))] H_1 := hP
  have hD : va_D A [(a_this, .inr (7, [.ref a_text, .ref a_operands, .ref a_told, .int wordKind_2, .int wordPlace_3, .int wordEnd_4, .int number, .int statementPlace, .int action, .int how, .int (b2i isLast), .int faultKind, .int faultPlace])), (a_text, .inr (12, [.ref a_text_bytes, .int text_size])), (a_text_bytes, .inl (g 0, 160, .inl text_bytes))] := hD
  have hw := hw_1
  refine lv_aload_n hx hb dX5_readSign_4 rfl (lv_at hl 0 rfl) ?_
  refine va_get (D := (dC, dI)) (ci := 7) (v := .int wordKind_2) (C := RX5) (T := TX5) (N := 13) hx hb hts hiX5 hown hK hP 0 rfl rfl 3 (by decide) hf29 (fun _ h9 => h9) rfl dX5_readSign_5 ?_
  refine lv_iconst (v := 3) hx hb dX5_readSign_8 (by decide) ?_
  refine lv_icmp_eq (tgt := 20) hx hb dX5_readSign_9 (by decide) (fun c_5 => ?_) (fun c_5 => ?_)
  · have hw := hw.1 c_5
    refine lv_iconst (v := 1) hx hb dX5_readSign_20 (by decide) ?_
    refine lv_goto (tgt := 25) hx hb dX5_readSign_21 (by decide) ?_
    have hP9 := hP.sub (ws' := [(a_this, .inr (7, [.ref a_text, .ref a_operands, .ref a_told, .int wordKind_2, .int wordPlace_3, .int wordEnd_4, .int number, .int statementPlace, .int action, .int how, .int (b2i isLast), .int faultKind, .int faultPlace])), (a_text, .inr (12, [.ref a_text_bytes, .int text_size])), (a_text_bytes, .inl (g 0, 160, .inl text_bytes))]) [0, 1, 2] rfl
    have hD9 := hD.sub (ws' := [(a_this, .inr (7, [.ref a_text, .ref a_operands, .ref a_told, .int wordKind_2, .int wordPlace_3, .int wordEnd_4, .int number, .int statementPlace, .int action, .int how, .int (b2i isLast), .int faultKind, .int faultPlace])), (a_text, .inr (12, [.ref a_text_bytes, .int text_size])), (a_text_bytes, .inl (g 0, 160, .inl text_bytes))]) [0, 1, 2] (by decide) rfl
    exact W.zret (v := 1) hx hb hr rfl (fun t ht hW => ⟨⟨_, (wordKind_2, wordPlace_3, wordEnd_4, faultKind, faultPlace, ()), rfl, ⟨true, rfl, hw⟩, ⟨P_at ht hP9, hD9⟩⟩, hS.F ht⟩) hS.2.2 dX5_readSign_25
  · have hw := hw.2 c_5
    refine lv_aload_n hx hb dX5_readSign_12 rfl (lv_at hl 0 rfl) ?_
    refine lv_iconst (v := 1) hx hb dX5_readSign_13 (by decide) ?_
    have hPc := hP.sub (ws' := [(a_this, .inr (7, [.ref a_text, .ref a_operands, .ref a_told, .int wordKind_2, .int wordPlace_3, .int wordEnd_4, .int number, .int statementPlace, .int action, .int how, .int (b2i isLast), .int faultKind, .int faultPlace]))]) [0] rfl
    have hDc := hD.sub (ws' := [(a_this, .inr (7, [.ref a_text, .ref a_operands, .ref a_told, .int wordKind_2, .int wordPlace_3, .int wordEnd_4, .int number, .int statementPlace, .int action, .int how, .int (b2i isLast), .int faultKind, .int faultPlace]))]) [0] (by decide) rfl
    have hFc := va_free (wc := [(a_this, .inr (7, [.ref a_text, .ref a_operands, .ref a_told, .int wordKind_2, .int wordPlace_3, .int wordEnd_4, .int number, .int statementPlace, .int action, .int how, .int (b2i isLast), .int faultKind, .int faultPlace]))]) hD hS hA [0] rfl
    refine va_calli (va_runV (As := [.int 1]) (rest := []) ⟨hx, hb, hml, hown, hts⟩ (c_X5_refuse l dC dI g (a_this := a_this) (a_text := a_text) (a_operands := a_operands) (a_told := a_told) (wordKind := wordKind_2) (wordPlace := wordPlace_3) (wordEnd := wordEnd_4) (number := number) (statementPlace := statementPlace) (action := action) (how := how) (isLast := isLast) (faultKind := faultKind) (faultPlace := faultPlace) (kind := 1) (hw := hw) (sz := H_1.size)) (cwV 1 hts (gqV aw_5_140 aw_5_142 aw_0_37 aw_1_10 aw_5_143) rfl rfl rfl (by decide +kernel) ⟨Nat.le_of_ble_eq_true rfl, Nat.le_of_ble_eq_true rfl⟩) ⟨PG_blind, va_recv hK hP (ci := 7) (q0 := 0) rfl rfl, PG_call hK hG hS hPc hDc hFc⟩ rfl rfl hl.1 rfl (lv_room (Nat.le_of_ble_eq_true rfl)) dX5_readSign_14 ⟨Nat.le_of_ble_eq_true rfl, Nat.le_of_ble_eq_true rfl⟩) hS (fun q _ h => hFc q h) hFc (fun r_6 u_6 t_6 H_6 L_6 ht_6 hvm_6 hw_6 hB_6 hz_6 hk_6 hS => ?_)
    obtain ⟨faultKind_7, faultPlace_8, u_6⟩ := u_6
    obtain ⟨hP1, hD1⟩ := hB_6
    rw [ht_6] at hP1
    obtain ⟨hP, hD⟩ := va_join (wr := [(a_text, .inr (12, [.ref a_text_bytes, .int text_size])), (a_text_bytes, .inl (g 0, 160, .inl text_bytes))]) (w1 := [(a_this, .inr (7, [.ref a_text, .ref a_operands, .ref a_told, .int wordKind_2, .int wordPlace_3, .int wordEnd_4, .int number, .int statementPlace, .int action, .int how, .int (b2i isLast), .int faultKind_7, .int faultPlace_8]))]) hP hD [0] [1, 2] rfl rfl (by decide) (by decide) hk_6 hFc hP1 hD1
    have hP : va_P (dC, dI) vwCl [(a_text, .inr (12, [.ref a_text_bytes, .int text_size])), (a_text_bytes, .inl (g 0, 160, .inl text_bytes)), (a_this, .inr (7, [.ref a_text, .ref a_operands, .ref a_told, .int wordKind_2, .int wordPlace_3, .int wordEnd_4, .int number, .int statementPlace, .int action, .int how, .int (b2i isLast), .int faultKind_7, .int faultPlace_8]))] H_6 := hP
    have hD : va_D A [(a_text, .inr (12, [.ref a_text_bytes, .int text_size])), (a_text_bytes, .inl (g 0, 160, .inl text_bytes)), (a_this, .inr (7, [.ref a_text, .ref a_operands, .ref a_told, .int wordKind_2, .int wordPlace_3, .int wordEnd_4, .int number, .int statementPlace, .int action, .int how, .int (b2i isLast), .int faultKind_7, .int faultPlace_8]))] := hD
    obtain ⟨b_6, rfl, hw⟩ := hw_6
    refine lv_if_eq (tgt := 24) hx hb dX5_readSign_17 (by decide) (fun c_9 => ?_) (fun c_9 => ?_)
    · have hw := hw.1 (b2i_0 c_9)
      refine lv_iconst (v := 0) hx hb dX5_readSign_24 (by decide) ?_
      have hP9 := hP.sub (ws' := [(a_this, .inr (7, [.ref a_text, .ref a_operands, .ref a_told, .int wordKind_2, .int wordPlace_3, .int wordEnd_4, .int number, .int statementPlace, .int action, .int how, .int (b2i isLast), .int faultKind_7, .int faultPlace_8])), (a_text, .inr (12, [.ref a_text_bytes, .int text_size])), (a_text_bytes, .inl (g 0, 160, .inl text_bytes))]) [2, 0, 1] rfl
      have hD9 := hD.sub (ws' := [(a_this, .inr (7, [.ref a_text, .ref a_operands, .ref a_told, .int wordKind_2, .int wordPlace_3, .int wordEnd_4, .int number, .int statementPlace, .int action, .int how, .int (b2i isLast), .int faultKind_7, .int faultPlace_8])), (a_text, .inr (12, [.ref a_text_bytes, .int text_size])), (a_text_bytes, .inl (g 0, 160, .inl text_bytes))]) [2, 0, 1] (by decide) rfl
      exact W.zret (v := 0) hx hb hr rfl (fun t ht hW => ⟨⟨_, (wordKind_2, wordPlace_3, wordEnd_4, faultKind_7, faultPlace_8, ()), rfl, ⟨false, rfl, hw⟩, ⟨P_at ht hP9, hD9⟩⟩, hS.F ht⟩) hS.2.2 dX5_readSign_25
    · have hw := hw.2 (b2i_1 c_9)
      refine lv_iconst (v := 1) hx hb dX5_readSign_20 (by decide) ?_
      refine lv_goto (tgt := 25) hx hb dX5_readSign_21 (by decide) ?_
      have hP9 := hP.sub (ws' := [(a_this, .inr (7, [.ref a_text, .ref a_operands, .ref a_told, .int wordKind_2, .int wordPlace_3, .int wordEnd_4, .int number, .int statementPlace, .int action, .int how, .int (b2i isLast), .int faultKind_7, .int faultPlace_8])), (a_text, .inr (12, [.ref a_text_bytes, .int text_size])), (a_text_bytes, .inl (g 0, 160, .inl text_bytes))]) [2, 0, 1] rfl
      have hD9 := hD.sub (ws' := [(a_this, .inr (7, [.ref a_text, .ref a_operands, .ref a_told, .int wordKind_2, .int wordPlace_3, .int wordEnd_4, .int number, .int statementPlace, .int action, .int how, .int (b2i isLast), .int faultKind_7, .int faultPlace_8])), (a_text, .inr (12, [.ref a_text_bytes, .int text_size])), (a_text_bytes, .inl (g 0, 160, .inl text_bytes))]) [2, 0, 1] (by decide) rfl
      exact W.zret (v := 1) hx hb hr rfl (fun t ht hW => ⟨⟨_, (wordKind_2, wordPlace_3, wordEnd_4, faultKind_7, faultPlace_8, ()), rfl, ⟨true, rfl, hw⟩, ⟨P_at ht hP9, hD9⟩⟩, hS.F ht⟩) hS.2.2 dX5_readSign_25
theorem dX5_readInto_0 : decode cX5_readInto 0 = .ok (.aload_n 0, 1) := by decide +kernel
theorem dX5_readInto_1 : decode cX5_readInto 1 = .ok (.invokevirtual 61, 3) := by decide +kernel
theorem dX5_readInto_4 : decode cX5_readInto 4 = .ok (.aload_n 0, 1) := by decide +kernel
theorem dX5_readInto_5 : decode cX5_readInto 5 = .ok (.ldc 120, 2) := by decide +kernel
theorem dX5_readInto_7 : decode cX5_readInto 7 = .ok (.invokevirtual 70, 3) := by decide +kernel
theorem dX5_readInto_10 : decode cX5_readInto 10 = .ok (.ifCond .ne 11, 3) := by decide +kernel
theorem dX5_readInto_21 : decode cX5_readInto 21 = .ok (.iconst 1, 1) := by decide +kernel
theorem dX5_readInto_22 : decode cX5_readInto 22 = .ok (.goto 4, 3) := by decide +kernel
theorem dX5_readInto_26 : decode cX5_readInto 26 = .ok (.ireturn, 1) := by decide +kernel
theorem dX5_readInto_13 : decode cX5_readInto 13 = .ok (.aload_n 0, 1) := by decide +kernel
theorem dX5_readInto_14 : decode cX5_readInto 14 = .ok (.iconst 1, 1) := by decide +kernel
theorem dX5_readInto_15 : decode cX5_readInto 15 = .ok (.invokevirtual 107, 3) := by decide +kernel
theorem dX5_readInto_18 : decode cX5_readInto 18 = .ok (.ifCond .eq 7, 3) := by decide +kernel
theorem dX5_readInto_25 : decode cX5_readInto 25 = .ok (.iconst 0, 1) := by decide +kernel
abbrev Wa_X5_readInto (g : Nat → ClassId) (a_this : Nat) (a_text : Nat) (a_operands : Nat) (a_told : Nat) (wordKind : Int32) (wordPlace : Int32) (wordEnd : Int32) (number : Int32) (statementPlace : Int32) (action : Int32) (how : Int32) (isLast : Bool) (faultKind : Int32) (faultPlace : Int32) (a_text_bytes : Nat) (text_size : Int32) (text_bytes : Nat → Int32) : va_W := [(a_this, .inr (7, [.ref a_text, .ref a_operands, .ref a_told, .int wordKind, .int wordPlace, .int wordEnd, .int number, .int statementPlace, .int action, .int how, .int (b2i isLast), .int faultKind, .int faultPlace])), (a_text, .inr (12, [.ref a_text_bytes, .int text_size])), (a_text_bytes, .inl (g 0, 160, .inl text_bytes))]
abbrev Wb_X5_readInto (g : Nat → ClassId) (a_this : Nat) (a_text : Nat) (a_operands : Nat) (a_told : Nat) (number : Int32) (statementPlace : Int32) (action : Int32) (how : Int32) (isLast : Bool) (a_text_bytes : Nat) (text_size : Int32) (text_bytes : Nat → Int32) (u : Int32 × Int32 × Int32 × Int32 × Int32 × Unit) : va_W := [(a_this, .inr (7, [.ref a_text, .ref a_operands, .ref a_told, .int u.1, .int u.2.1, .int u.2.2.1, .int number, .int statementPlace, .int action, .int how, .int (b2i isLast), .int u.2.2.2.1, .int u.2.2.2.2.1])), (a_text, .inr (12, [.ref a_text_bytes, .int text_size])), (a_text_bytes, .inl (g 0, 160, .inl text_bytes))]
set_option maxHeartbeats 8000000 in
set_option maxRecDepth 100000 in
theorem c_X5_readInto (l : Launch) (dC : Nat → ClassId) (dI : Nat → Nat → Nat) (g : Nat → ClassId) (a_this : Nat) (a_text : Nat) (a_operands : Nat) (a_told : Nat) (wordKind : Int32) (wordPlace : Int32) (wordEnd : Int32) (number : Int32) (statementPlace : Int32) (action : Int32) (how : Int32) (isLast : Bool) (faultKind : Int32) (faultPlace : Int32) (a_text_bytes : Nat) (text_size : Int32) (text_bytes : Nat → Int32) (Q : Bool → Int32 → Int32 → Int32 → Int32 → Int32 → Prop) (hw : wp_X5_readInto wordEnd faultKind faultPlace text_size text_bytes Q) (sz : Nat) : Met l yX5_readInto wqX5_readInto ({ frames := 11, cells := 0, slots := 0, locals := 142 }) (va_Pc [.ref a_this] (PG (dC, dI) g (Wa_X5_readInto g a_this a_text a_operands a_told wordKind wordPlace wordEnd number statementPlace action how isLast faultKind faultPlace a_text_bytes text_size text_bytes) sz)) (va_Qi (fun (r : Int32) (u : Int32 × Int32 × Int32 × Int32 × Int32 × Unit) => ∃ b : Bool, r = b2i b ∧ Q b u.1 u.2.1 u.2.2.1 u.2.2.2.1 u.2.2.2.2.1) (fun (u : Int32 × Int32 × Int32 × Int32 × Int32 × Unit) t9 => va_P (dC, dI) vwCl (Wb_X5_readInto g a_this a_text a_operands a_told number statementPlace action how isLast a_text_bytes text_size text_bytes u) t9.heap ∧ va_D (va_A (Wa_X5_readInto g a_this a_text a_operands a_told wordKind wordPlace wordEnd number statementPlace action how isLast faultKind faultPlace a_text_bytes text_size text_bytes) sz) (Wb_X5_readInto g a_this a_text a_operands a_told number statementPlace action how isLast a_text_bytes text_size text_bytes u)) (va_A (Wa_X5_readInto g a_this a_text a_operands a_told wordKind wordPlace wordEnd number statementPlace action how isLast faultKind faultPlace a_text_bytes text_size text_bytes) sz)) 0 0 (va_A (Wa_X5_readInto g a_this a_text a_operands a_told wordKind wordPlace wordEnd number statementPlace action how isLast faultKind faultPlace a_text_bytes text_size text_bytes) sz) := by
  refine Met.ofW (cc := cX5_readInto) (maxL := 1) (ret := (some .boolean)) (by decide) rfl ?_
  intro p e s m args below meth c s₁ B hml hv
  obtain ⟨rfl, hsz, hP, hK, hD0, hG⟩ := hv
  have hx := B.exec
  have hb := B.bytes
  have hr := B.returns
  have hts := atoms_spec (ws := wqX5_readInto) B.pre
  have hown : s.vm.findClass RX5 = some m.cls := findClass_of_methodNamed B.named
  have hlocks := B.notSynchronized
  subst hsz
  have hD := hD0.self (sz := s.heap.size)
  generalize hAe : va_A (Wa_X5_readInto g a_this a_text a_operands a_told wordKind wordPlace wordEnd number statementPlace action how isLast faultKind faultPlace a_text_bytes text_size text_bytes) s.heap.size = A at hD hG ⊢
  have hA : ∀ q : Nat, s.heap.size ≤ q → A q := fun q h => by rw [← hAe]; exact Or.inr h
  have hS : va_S A s.heap s.heap [] := va_S.rf
  have hl := lv_entry ([.ref a_this]) (n := 1) (Nat.le_of_ble_eq_true rfl)
  rw [lg_entry_eq]
  generalize (lg_sl ([.ref a_this]) ++ List.replicate (1 - (lg_sl ([.ref a_this])).length) Slot.unset).toArray = ls at hl ⊢
  have hl : lv_has ls 1 [(0, .ref a_this)] := hl
  unfold wp_X5_readInto at hw
  refine lv_aload_n hx hb dX5_readInto_0 rfl (lv_at hl 0 rfl) ?_
  have hPc := hP.sub (ws' := [(a_this, .inr (7, [.ref a_text, .ref a_operands, .ref a_told, .int wordKind, .int wordPlace, .int wordEnd, .int number, .int statementPlace, .int action, .int how, .int (b2i isLast), .int faultKind, .int faultPlace])), (a_text, .inr (12, [.ref a_text_bytes, .int text_size])), (a_text_bytes, .inl (g 0, 160, .inl text_bytes))]) [0, 1, 2] rfl
  have hDc := hD.sub (ws' := [(a_this, .inr (7, [.ref a_text, .ref a_operands, .ref a_told, .int wordKind, .int wordPlace, .int wordEnd, .int number, .int statementPlace, .int action, .int how, .int (b2i isLast), .int faultKind, .int faultPlace])), (a_text, .inr (12, [.ref a_text_bytes, .int text_size])), (a_text_bytes, .inl (g 0, 160, .inl text_bytes))]) [0, 1, 2] (by decide) rfl
  have hFc := va_free (wc := [(a_this, .inr (7, [.ref a_text, .ref a_operands, .ref a_told, .int wordKind, .int wordPlace, .int wordEnd, .int number, .int statementPlace, .int action, .int how, .int (b2i isLast), .int faultKind, .int faultPlace])), (a_text, .inr (12, [.ref a_text_bytes, .int text_size])), (a_text_bytes, .inl (g 0, 160, .inl text_bytes))]) hD hS hA [0, 1, 2] rfl
  refine va_callv (va_runV (As := []) (rest := []) ⟨hx, hb, hml, hown, hts⟩ (c_X5_readWord l dC dI g (a_this := a_this) (a_text := a_text) (a_operands := a_operands) (a_told := a_told) (wordKind := wordKind) (wordPlace := wordPlace) (wordEnd := wordEnd) (number := number) (statementPlace := statementPlace) (action := action) (how := how) (isLast := isLast) (faultKind := faultKind) (faultPlace := faultPlace) (a_text_bytes := a_text_bytes) (text_size := text_size) (text_bytes := text_bytes) (hw := hw) (sz := s.heap.size)) (cwV 0 hts (gqV aw_5_60 aw_5_62 aw_0_32 aw_1_10 aw_5_63) rfl rfl rfl (by decide +kernel) ⟨Nat.le_of_ble_eq_true rfl, Nat.le_of_ble_eq_true rfl⟩) ⟨PG_blind, va_recv hK hP (ci := 7) (q0 := 0) rfl rfl, PG_call hK hG hS hPc hDc hFc⟩ rfl rfl hl.1 rfl (lv_room (Nat.le_of_ble_eq_true rfl)) dX5_readInto_1 ⟨Nat.le_of_ble_eq_true rfl, Nat.le_of_ble_eq_true rfl⟩) hS (fun q _ h => hFc q h) hFc (fun u_1 t_1 H_1 L_1 ht_1 hvm_1 hw_1 hB_1 hz_1 hk_1 hS => ?_)
  obtain ⟨wordKind_2, wordPlace_3, wordEnd_4, u_1⟩ := u_1
  obtain ⟨hP1, hD1⟩ := hB_1
  rw [ht_1] at hP1
  obtain ⟨hP, hD⟩ := va_join (wr := []) (w1 := [(a_this, .inr (7, [.ref a_text, .ref a_operands, .ref a_told, .int wordKind_2, .int wordPlace_3, .int wordEnd_4, .int number, .int statementPlace, .int action, .int how, .int (b2i isLast), .int faultKind, .int faultPlace])), (a_text, .inr (12, [.ref a_text_bytes, .int text_size])), (a_text_bytes, .inl (g 0, 160, .inl text_bytes))]) hP hD [0, 1, 2] [] rfl rfl (by decide) (by decide) hk_1 hFc hP1 hD1
  have hP : va_P (dC, dI) vwCl [(a_this, .inr (7, [.ref a_text, .ref a_operands, .ref a_told, .int wordKind_2, .int wordPlace_3, .int wordEnd_4, .int number, .int statementPlace, .int action, .int how, .int (b2i isLast), .int faultKind, .int faultPlace])), (a_text, .inr (12, [.ref a_text_bytes, .int text_size])), (a_text_bytes, .inl (g 0, 160, .inl text_bytes))] H_1 := hP
  have hD : va_D A [(a_this, .inr (7, [.ref a_text, .ref a_operands, .ref a_told, .int wordKind_2, .int wordPlace_3, .int wordEnd_4, .int number, .int statementPlace, .int action, .int how, .int (b2i isLast), .int faultKind, .int faultPlace])), (a_text, .inr (12, [.ref a_text_bytes, .int text_size])), (a_text_bytes, .inl (g 0, 160, .inl text_bytes))] := hD
  have hw := hw_1
  refine lv_aload_n hx hb dX5_readInto_4 rfl (lv_at hl 0 rfl) ?_
  obtain ⟨as_1, hR_1, hT_1⟩ := GSb_of (sx_1 hG)
  refine va_ldcS hx hb hown hR_1 dX5_readInto_5 ?_
  refine va_calli (va_runV (As := [.ref as_1]) (rest := []) ⟨hx, hb, hml, hown, hts⟩ (c_X5_isWord l dC dI g (Wd := [(a_this, .inr (7, [.ref a_text, .ref a_operands, .ref a_told, .int wordKind_2, .int wordPlace_3, .int wordEnd_4, .int number, .int statementPlace, .int action, .int how, .int (b2i isLast), .int faultKind, .int faultPlace])), (a_text, .inr (12, [.ref a_text_bytes, .int text_size])), (a_text_bytes, .inl (g 0, 160, .inl text_bytes))]) (a_this := a_this) (a_text := a_text) (a_operands := a_operands) (a_told := a_told) (wordKind := wordKind_2) (wordPlace := wordPlace_3) (wordEnd := wordEnd_4) (number := number) (statementPlace := statementPlace) (action := action) (how := how) (isLast := isLast) (faultKind := faultKind) (faultPlace := faultPlace) (a_text_bytes := a_text_bytes) (text_size := text_size) (text_bytes := text_bytes) (a_word := as_1) (word_n := (tn 9)) (word_f := (tb 9)) (k_this := 0) (w_this := rfl) (k_text := 1) (w_text := rfl) (k_text_bytes := 2) (w_text_bytes := rfl) (hw := hw) (sz := H_1.size)) (cwV 1 hts (gqV aw_5_76 aw_5_78 aw_0_33 aw_1_10 aw_5_79) rfl rfl rfl (by decide +kernel) ⟨Nat.le_of_ble_eq_true rfl, Nat.le_of_ble_eq_true rfl⟩) ⟨PX_blind (GSb_go (tn 9) (tb 9) as_1), va_recv hK hP (ci := 7) (q0 := 0) rfl rfl, PX_call (GSb_go (tn 9) (tb 9) as_1) hK hG hS hP hD (A_all hD hA hS.1) hT_1⟩ rfl rfl hl.1 rfl (lv_room (Nat.le_of_ble_eq_true rfl)) dX5_readInto_7 ⟨Nat.le_of_ble_eq_true rfl, Nat.le_of_ble_eq_true rfl⟩) hS (fun q _ h => (A_all hD hA hS.1) q h) (A_all hD hA hS.1) (fun r_5 u_5 t_5 H_5 L_5 ht_5 hvm_5 hw_5 hB_5 hz_5 hk_5 hS => ?_)
  rw [ht_5] at hB_5
  have hP : va_P (dC, dI) vwCl [(a_this, .inr (7, [.ref a_text, .ref a_operands, .ref a_told, .int wordKind_2, .int wordPlace_3, .int wordEnd_4, .int number, .int statementPlace, .int action, .int how, .int (b2i isLast), .int faultKind, .int faultPlace])), (a_text, .inr (12, [.ref a_text_bytes, .int text_size])), (a_text_bytes, .inl (g 0, 160, .inl text_bytes))] H_5 := hB_5
  obtain ⟨b_5, rfl, hw⟩ := hw_5
  refine lv_if_ne (tgt := 21) hx hb dX5_readInto_10 (by decide) (fun c_6 => ?_) (fun c_6 => ?_)
  · have hw := hw.2 (b2i_1 c_6)
    refine lv_iconst (v := 1) hx hb dX5_readInto_21 (by decide) ?_
    refine lv_goto (tgt := 26) hx hb dX5_readInto_22 (by decide) ?_
    have hP9 := hP.sub (ws' := [(a_this, .inr (7, [.ref a_text, .ref a_operands, .ref a_told, .int wordKind_2, .int wordPlace_3, .int wordEnd_4, .int number, .int statementPlace, .int action, .int how, .int (b2i isLast), .int faultKind, .int faultPlace])), (a_text, .inr (12, [.ref a_text_bytes, .int text_size])), (a_text_bytes, .inl (g 0, 160, .inl text_bytes))]) [0, 1, 2] rfl
    have hD9 := hD.sub (ws' := [(a_this, .inr (7, [.ref a_text, .ref a_operands, .ref a_told, .int wordKind_2, .int wordPlace_3, .int wordEnd_4, .int number, .int statementPlace, .int action, .int how, .int (b2i isLast), .int faultKind, .int faultPlace])), (a_text, .inr (12, [.ref a_text_bytes, .int text_size])), (a_text_bytes, .inl (g 0, 160, .inl text_bytes))]) [0, 1, 2] (by decide) rfl
    exact W.zret (v := 1) hx hb hr rfl (fun t ht hW => ⟨⟨_, (wordKind_2, wordPlace_3, wordEnd_4, faultKind, faultPlace, ()), rfl, ⟨true, rfl, hw⟩, ⟨P_at ht hP9, hD9⟩⟩, hS.F ht⟩) hS.2.2 dX5_readInto_26
  · have hw := hw.1 (b2i_0 c_6)
    refine lv_aload_n hx hb dX5_readInto_13 rfl (lv_at hl 0 rfl) ?_
    refine lv_iconst (v := 1) hx hb dX5_readInto_14 (by decide) ?_
    have hPc := hP.sub (ws' := [(a_this, .inr (7, [.ref a_text, .ref a_operands, .ref a_told, .int wordKind_2, .int wordPlace_3, .int wordEnd_4, .int number, .int statementPlace, .int action, .int how, .int (b2i isLast), .int faultKind, .int faultPlace]))]) [0] rfl
    have hDc := hD.sub (ws' := [(a_this, .inr (7, [.ref a_text, .ref a_operands, .ref a_told, .int wordKind_2, .int wordPlace_3, .int wordEnd_4, .int number, .int statementPlace, .int action, .int how, .int (b2i isLast), .int faultKind, .int faultPlace]))]) [0] (by decide) rfl
    have hFc := va_free (wc := [(a_this, .inr (7, [.ref a_text, .ref a_operands, .ref a_told, .int wordKind_2, .int wordPlace_3, .int wordEnd_4, .int number, .int statementPlace, .int action, .int how, .int (b2i isLast), .int faultKind, .int faultPlace]))]) hD hS hA [0] rfl
    refine va_calli (va_runV (As := [.int 1]) (rest := []) ⟨hx, hb, hml, hown, hts⟩ (c_X5_refuse l dC dI g (a_this := a_this) (a_text := a_text) (a_operands := a_operands) (a_told := a_told) (wordKind := wordKind_2) (wordPlace := wordPlace_3) (wordEnd := wordEnd_4) (number := number) (statementPlace := statementPlace) (action := action) (how := how) (isLast := isLast) (faultKind := faultKind) (faultPlace := faultPlace) (kind := 1) (hw := hw) (sz := H_5.size)) (cwV 1 hts (gqV aw_5_140 aw_5_142 aw_0_37 aw_1_10 aw_5_143) rfl rfl rfl (by decide +kernel) ⟨Nat.le_of_ble_eq_true rfl, Nat.le_of_ble_eq_true rfl⟩) ⟨PG_blind, va_recv hK hP (ci := 7) (q0 := 0) rfl rfl, PG_call hK hG hS hPc hDc hFc⟩ rfl rfl hl.1 rfl (lv_room (Nat.le_of_ble_eq_true rfl)) dX5_readInto_15 ⟨Nat.le_of_ble_eq_true rfl, Nat.le_of_ble_eq_true rfl⟩) hS (fun q _ h => hFc q h) hFc (fun r_7 u_7 t_7 H_7 L_7 ht_7 hvm_7 hw_7 hB_7 hz_7 hk_7 hS => ?_)
    obtain ⟨faultKind_8, faultPlace_9, u_7⟩ := u_7
    obtain ⟨hP1, hD1⟩ := hB_7
    rw [ht_7] at hP1
    obtain ⟨hP, hD⟩ := va_join (wr := [(a_text, .inr (12, [.ref a_text_bytes, .int text_size])), (a_text_bytes, .inl (g 0, 160, .inl text_bytes))]) (w1 := [(a_this, .inr (7, [.ref a_text, .ref a_operands, .ref a_told, .int wordKind_2, .int wordPlace_3, .int wordEnd_4, .int number, .int statementPlace, .int action, .int how, .int (b2i isLast), .int faultKind_8, .int faultPlace_9]))]) hP hD [0] [1, 2] rfl rfl (by decide) (by decide) hk_7 hFc hP1 hD1
    have hP : va_P (dC, dI) vwCl [(a_text, .inr (12, [.ref a_text_bytes, .int text_size])), (a_text_bytes, .inl (g 0, 160, .inl text_bytes)), (a_this, .inr (7, [.ref a_text, .ref a_operands, .ref a_told, .int wordKind_2, .int wordPlace_3, .int wordEnd_4, .int number, .int statementPlace, .int action, .int how, .int (b2i isLast), .int faultKind_8, .int faultPlace_9]))] H_7 := hP
    have hD : va_D A [(a_text, .inr (12, [.ref a_text_bytes, .int text_size])), (a_text_bytes, .inl (g 0, 160, .inl text_bytes)), (a_this, .inr (7, [.ref a_text, .ref a_operands, .ref a_told, .int wordKind_2, .int wordPlace_3, .int wordEnd_4, .int number, .int statementPlace, .int action, .int how, .int (b2i isLast), .int faultKind_8, .int faultPlace_9]))] := hD
    obtain ⟨b_7, rfl, hw⟩ := hw_7
    refine lv_if_eq (tgt := 25) hx hb dX5_readInto_18 (by decide) (fun c_10 => ?_) (fun c_10 => ?_)
    · have hw := hw.1 (b2i_0 c_10)
      refine lv_iconst (v := 0) hx hb dX5_readInto_25 (by decide) ?_
      have hP9 := hP.sub (ws' := [(a_this, .inr (7, [.ref a_text, .ref a_operands, .ref a_told, .int wordKind_2, .int wordPlace_3, .int wordEnd_4, .int number, .int statementPlace, .int action, .int how, .int (b2i isLast), .int faultKind_8, .int faultPlace_9])), (a_text, .inr (12, [.ref a_text_bytes, .int text_size])), (a_text_bytes, .inl (g 0, 160, .inl text_bytes))]) [2, 0, 1] rfl
      have hD9 := hD.sub (ws' := [(a_this, .inr (7, [.ref a_text, .ref a_operands, .ref a_told, .int wordKind_2, .int wordPlace_3, .int wordEnd_4, .int number, .int statementPlace, .int action, .int how, .int (b2i isLast), .int faultKind_8, .int faultPlace_9])), (a_text, .inr (12, [.ref a_text_bytes, .int text_size])), (a_text_bytes, .inl (g 0, 160, .inl text_bytes))]) [2, 0, 1] (by decide) rfl
      exact W.zret (v := 0) hx hb hr rfl (fun t ht hW => ⟨⟨_, (wordKind_2, wordPlace_3, wordEnd_4, faultKind_8, faultPlace_9, ()), rfl, ⟨false, rfl, hw⟩, ⟨P_at ht hP9, hD9⟩⟩, hS.F ht⟩) hS.2.2 dX5_readInto_26
    · have hw := hw.2 (b2i_1 c_10)
      refine lv_iconst (v := 1) hx hb dX5_readInto_21 (by decide) ?_
      refine lv_goto (tgt := 26) hx hb dX5_readInto_22 (by decide) ?_
      have hP9 := hP.sub (ws' := [(a_this, .inr (7, [.ref a_text, .ref a_operands, .ref a_told, .int wordKind_2, .int wordPlace_3, .int wordEnd_4, .int number, .int statementPlace, .int action, .int how, .int (b2i isLast), .int faultKind_8, .int faultPlace_9])), (a_text, .inr (12, [.ref a_text_bytes, .int text_size])), (a_text_bytes, .inl (g 0, 160, .inl text_bytes))]) [2, 0, 1] rfl
      have hD9 := hD.sub (ws' := [(a_this, .inr (7, [.ref a_text, .ref a_operands, .ref a_told, .int wordKind_2, .int wordPlace_3, .int wordEnd_4, .int number, .int statementPlace, .int action, .int how, .int (b2i isLast), .int faultKind_8, .int faultPlace_9])), (a_text, .inr (12, [.ref a_text_bytes, .int text_size])), (a_text_bytes, .inl (g 0, 160, .inl text_bytes))]) [2, 0, 1] (by decide) rfl
      exact W.zret (v := 1) hx hb hr rfl (fun t ht hW => ⟨⟨_, (wordKind_2, wordPlace_3, wordEnd_4, faultKind_8, faultPlace_9, ()), rfl, ⟨true, rfl, hw⟩, ⟨P_at ht hP9, hD9⟩⟩, hS.F ht⟩) hS.2.2 dX5_readInto_26
theorem dX5_readTape_0 : decode cX5_readTape 0 = .ok (.aload_n 0, 1) := by decide +kernel
theorem dX5_readTape_1 : decode cX5_readTape 1 = .ok (.iconst 0, 1) := by decide +kernel
theorem dX5_readTape_2 : decode cX5_readTape 2 = .ok (.bipush 7, 2) := by decide +kernel
theorem dX5_readTape_4 : decode cX5_readTape 4 = .ok (.invokevirtual 116, 3) := by decide +kernel
theorem dX5_readTape_7 : decode cX5_readTape 7 = .ok (.ifCond .ne 5, 3) := by decide +kernel
theorem dX5_readTape_12 : decode cX5_readTape 12 = .ok (.iload_n 1, 1) := by decide +kernel
theorem dX5_readTape_13 : decode cX5_readTape 13 = .ok (.ifCond .lt 22, 3) := by decide +kernel
theorem dX5_readTape_35 : decode cX5_readTape 35 = .ok (.iconst 1, 1) := by decide +kernel
theorem dX5_readTape_36 : decode cX5_readTape 36 = .ok (.ireturn, 1) := by decide +kernel
theorem dX5_readTape_16 : decode cX5_readTape 16 = .ok (.iload_n 1, 1) := by decide +kernel
theorem dX5_readTape_17 : decode cX5_readTape 17 = .ok (.aload_n 0, 1) := by decide +kernel
theorem dX5_readTape_18 : decode cX5_readTape 18 = .ok (.getfield 18, 3) := by decide +kernel
theorem dX5_readTape_21 : decode cX5_readTape 21 = .ok (.arraylength, 1) := by decide +kernel
theorem dX5_readTape_22 : decode cX5_readTape 22 = .ok (.if_icmp .ge 13, 3) := by decide +kernel
theorem dX5_readTape_25 : decode cX5_readTape 25 = .ok (.aload_n 0, 1) := by decide +kernel
theorem dX5_readTape_26 : decode cX5_readTape 26 = .ok (.getfield 18, 3) := by decide +kernel
theorem dX5_readTape_29 : decode cX5_readTape 29 = .ok (.iload_n 1, 1) := by decide +kernel
theorem dX5_readTape_30 : decode cX5_readTape 30 = .ok (.aload_n 0, 1) := by decide +kernel
theorem dX5_readTape_31 : decode cX5_readTape 31 = .ok (.getfield 39, 3) := by decide +kernel
theorem dX5_readTape_34 : decode cX5_readTape 34 = .ok (.iastore, 1) := by decide +kernel
theorem dX5_readTape_10 : decode cX5_readTape 10 = .ok (.iconst 0, 1) := by decide +kernel
theorem dX5_readTape_11 : decode cX5_readTape 11 = .ok (.ireturn, 1) := by decide +kernel
abbrev Wa_X5_readTape (g : Nat → ClassId) (a_this : Nat) (a_text : Nat) (a_operands : Nat) (a_told : Nat) (wordKind : Int32) (wordPlace : Int32) (wordEnd : Int32) (number : Int32) (statementPlace : Int32) (action : Int32) (how : Int32) (isLast : Bool) (faultKind : Int32) (faultPlace : Int32) (a_text_bytes : Nat) (text_size : Int32) (operands : Nat → Int32) (text_bytes : Nat → Int32) : va_W := [(a_this, .inr (7, [.ref a_text, .ref a_operands, .ref a_told, .int wordKind, .int wordPlace, .int wordEnd, .int number, .int statementPlace, .int action, .int how, .int (b2i isLast), .int faultKind, .int faultPlace])), (a_text, .inr (12, [.ref a_text_bytes, .int text_size])), (a_operands, .inl (g 0, 3, .inl operands)), (a_text_bytes, .inl (g 0, 160, .inl text_bytes))]
abbrev Wb_X5_readTape (g : Nat → ClassId) (a_this : Nat) (a_text : Nat) (a_operands : Nat) (a_told : Nat) (statementPlace : Int32) (action : Int32) (how : Int32) (isLast : Bool) (a_text_bytes : Nat) (text_size : Int32) (text_bytes : Nat → Int32) (u : Int32 × Int32 × Int32 × Int32 × Int32 × Int32 × (Nat → Int32) × Unit) : va_W := [(a_this, .inr (7, [.ref a_text, .ref a_operands, .ref a_told, .int u.1, .int u.2.1, .int u.2.2.1, .int u.2.2.2.1, .int statementPlace, .int action, .int how, .int (b2i isLast), .int u.2.2.2.2.1, .int u.2.2.2.2.2.1])), (a_text, .inr (12, [.ref a_text_bytes, .int text_size])), (a_operands, .inl (g 0, 3, .inl u.2.2.2.2.2.2.1)), (a_text_bytes, .inl (g 0, 160, .inl text_bytes))]
set_option maxHeartbeats 8000000 in
set_option maxRecDepth 100000 in
theorem c_X5_readTape (l : Launch) (dC : Nat → ClassId) (dI : Nat → Nat → Nat) (g : Nat → ClassId) (a_this : Nat) (a_text : Nat) (a_operands : Nat) (a_told : Nat) (wordKind : Int32) (wordPlace : Int32) (wordEnd : Int32) (number : Int32) (statementPlace : Int32) (action : Int32) (how : Int32) (isLast : Bool) (faultKind : Int32) (faultPlace : Int32) (a_text_bytes : Nat) (text_size : Int32) (operands : Nat → Int32) (text_bytes : Nat → Int32) (slot : Int32) (Q : Bool → Int32 → Int32 → Int32 → Int32 → Int32 → Int32 → (Nat → Int32) → Prop) (hw : wp_X5_readTape wordEnd number faultKind faultPlace text_size operands text_bytes slot Q) (sz : Nat) : Met l yX5_readTape wqX5_readTape ({ frames := 3, cells := 0, slots := 0, locals := 64 }) (va_Pc [.ref a_this, .int slot] (PG (dC, dI) g (Wa_X5_readTape g a_this a_text a_operands a_told wordKind wordPlace wordEnd number statementPlace action how isLast faultKind faultPlace a_text_bytes text_size operands text_bytes) sz)) (va_Qi (fun (r : Int32) (u : Int32 × Int32 × Int32 × Int32 × Int32 × Int32 × (Nat → Int32) × Unit) => ∃ b : Bool, r = b2i b ∧ Q b u.1 u.2.1 u.2.2.1 u.2.2.2.1 u.2.2.2.2.1 u.2.2.2.2.2.1 u.2.2.2.2.2.2.1) (fun (u : Int32 × Int32 × Int32 × Int32 × Int32 × Int32 × (Nat → Int32) × Unit) t9 => va_P (dC, dI) vwCl (Wb_X5_readTape g a_this a_text a_operands a_told statementPlace action how isLast a_text_bytes text_size text_bytes u) t9.heap ∧ va_D (va_A (Wa_X5_readTape g a_this a_text a_operands a_told wordKind wordPlace wordEnd number statementPlace action how isLast faultKind faultPlace a_text_bytes text_size operands text_bytes) sz) (Wb_X5_readTape g a_this a_text a_operands a_told statementPlace action how isLast a_text_bytes text_size text_bytes u)) (va_A (Wa_X5_readTape g a_this a_text a_operands a_told wordKind wordPlace wordEnd number statementPlace action how isLast faultKind faultPlace a_text_bytes text_size operands text_bytes) sz)) 0 0 (va_A (Wa_X5_readTape g a_this a_text a_operands a_told wordKind wordPlace wordEnd number statementPlace action how isLast faultKind faultPlace a_text_bytes text_size operands text_bytes) sz) := by
  refine Met.ofW (cc := cX5_readTape) (maxL := 2) (ret := (some .boolean)) (by decide) rfl ?_
  intro p e s m args below meth c s₁ B hml hv
  obtain ⟨rfl, hsz, hP, hK, hD0, hG⟩ := hv
  have hx := B.exec
  have hb := B.bytes
  have hr := B.returns
  have hts := atoms_spec (ws := wqX5_readTape) B.pre
  have hown : s.vm.findClass RX5 = some m.cls := findClass_of_methodNamed B.named
  have hlocks := B.notSynchronized
  subst hsz
  have hD := hD0.self (sz := s.heap.size)
  generalize hAe : va_A (Wa_X5_readTape g a_this a_text a_operands a_told wordKind wordPlace wordEnd number statementPlace action how isLast faultKind faultPlace a_text_bytes text_size operands text_bytes) s.heap.size = A at hD hG ⊢
  have hA : ∀ q : Nat, s.heap.size ≤ q → A q := fun q h => by rw [← hAe]; exact Or.inr h
  have hS : va_S A s.heap s.heap [] := va_S.rf
  have hl := lv_entry ([.ref a_this, .int slot]) (n := 2) (Nat.le_of_ble_eq_true rfl)
  rw [lg_entry_eq]
  generalize (lg_sl ([.ref a_this, .int slot]) ++ List.replicate (2 - (lg_sl ([.ref a_this, .int slot])).length) Slot.unset).toArray = ls at hl ⊢
  have hl : lv_has ls 2 [(0, .ref a_this), (1, .int slot)] := hl
  unfold wp_X5_readTape at hw
  have hf18 := hts (Cond.fieldLink RX5 18 "RunmergeOffice$Reader" "operands" "[I") (aw_l aw_2_80)
  have hiX5 : ∀ w ∈ u_ws RX5 TX5 13, w ∈ wqX5_readTape := fun w h => aw_l (aw_wsX50 w h)
  have hf39 := hts (Cond.fieldLink RX5 39 "RunmergeOffice$Reader" "number" "I") (aw_l aw_2_86)
  refine lv_aload_n hx hb dX5_readTape_0 rfl (lv_at hl 0 rfl) ?_
  refine lv_iconst (v := 0) hx hb dX5_readTape_1 (by decide) ?_
  refine lv_bipush (v := 7) hx hb dX5_readTape_2 (by decide) ?_
  have hPc := hP.sub (ws' := [(a_this, .inr (7, [.ref a_text, .ref a_operands, .ref a_told, .int wordKind, .int wordPlace, .int wordEnd, .int number, .int statementPlace, .int action, .int how, .int (b2i isLast), .int faultKind, .int faultPlace])), (a_text, .inr (12, [.ref a_text_bytes, .int text_size])), (a_text_bytes, .inl (g 0, 160, .inl text_bytes))]) [0, 1, 3] rfl
  have hDc := hD.sub (ws' := [(a_this, .inr (7, [.ref a_text, .ref a_operands, .ref a_told, .int wordKind, .int wordPlace, .int wordEnd, .int number, .int statementPlace, .int action, .int how, .int (b2i isLast), .int faultKind, .int faultPlace])), (a_text, .inr (12, [.ref a_text_bytes, .int text_size])), (a_text_bytes, .inl (g 0, 160, .inl text_bytes))]) [0, 1, 3] (by decide) rfl
  have hFc := va_free (wc := [(a_this, .inr (7, [.ref a_text, .ref a_operands, .ref a_told, .int wordKind, .int wordPlace, .int wordEnd, .int number, .int statementPlace, .int action, .int how, .int (b2i isLast), .int faultKind, .int faultPlace])), (a_text, .inr (12, [.ref a_text_bytes, .int text_size])), (a_text_bytes, .inl (g 0, 160, .inl text_bytes))]) hD hS hA [0, 1, 3] rfl
  refine va_calli (va_runV (As := [.int 0, .int 7]) (rest := []) ⟨hx, hb, hml, hown, hts⟩ (c_X5_readNumber l dC dI g (a_this := a_this) (a_text := a_text) (a_operands := a_operands) (a_told := a_told) (wordKind := wordKind) (wordPlace := wordPlace) (wordEnd := wordEnd) (number := number) (statementPlace := statementPlace) (action := action) (how := how) (isLast := isLast) (faultKind := faultKind) (faultPlace := faultPlace) (a_text_bytes := a_text_bytes) (text_size := text_size) (text_bytes := text_bytes) (least := 0) (most := 7) (hw := hw) (sz := s.heap.size)) (cwV 2 hts (gqV aw_5_136 aw_5_138 aw_0_36 aw_1_10 aw_5_139) rfl rfl rfl (by decide +kernel) ⟨Nat.le_of_ble_eq_true rfl, Nat.le_of_ble_eq_true rfl⟩) ⟨PG_blind, va_recv hK hP (ci := 7) (q0 := 0) rfl rfl, PG_call hK hG hS hPc hDc hFc⟩ rfl rfl hl.1 rfl (lv_room (Nat.le_of_ble_eq_true rfl)) dX5_readTape_4 ⟨Nat.le_of_ble_eq_true rfl, Nat.le_of_ble_eq_true rfl⟩) hS (fun q _ h => hFc q h) hFc (fun r_1 u_1 t_1 H_1 L_1 ht_1 hvm_1 hw_1 hB_1 hz_1 hk_1 hS => ?_)
  obtain ⟨wordKind_2, wordPlace_3, wordEnd_4, number_5, faultKind_6, faultPlace_7, u_1⟩ := u_1
  obtain ⟨hP1, hD1⟩ := hB_1
  rw [ht_1] at hP1
  obtain ⟨hP, hD⟩ := va_join (wr := [(a_operands, .inl (g 0, 3, .inl operands))]) (w1 := [(a_this, .inr (7, [.ref a_text, .ref a_operands, .ref a_told, .int wordKind_2, .int wordPlace_3, .int wordEnd_4, .int number_5, .int statementPlace, .int action, .int how, .int (b2i isLast), .int faultKind_6, .int faultPlace_7])), (a_text, .inr (12, [.ref a_text_bytes, .int text_size])), (a_text_bytes, .inl (g 0, 160, .inl text_bytes))]) hP hD [0, 1, 3] [2] rfl rfl (by decide) (by decide) hk_1 hFc hP1 hD1
  have hP : va_P (dC, dI) vwCl [(a_operands, .inl (g 0, 3, .inl operands)), (a_this, .inr (7, [.ref a_text, .ref a_operands, .ref a_told, .int wordKind_2, .int wordPlace_3, .int wordEnd_4, .int number_5, .int statementPlace, .int action, .int how, .int (b2i isLast), .int faultKind_6, .int faultPlace_7])), (a_text, .inr (12, [.ref a_text_bytes, .int text_size])), (a_text_bytes, .inl (g 0, 160, .inl text_bytes))] H_1 := hP
  have hD : va_D A [(a_operands, .inl (g 0, 3, .inl operands)), (a_this, .inr (7, [.ref a_text, .ref a_operands, .ref a_told, .int wordKind_2, .int wordPlace_3, .int wordEnd_4, .int number_5, .int statementPlace, .int action, .int how, .int (b2i isLast), .int faultKind_6, .int faultPlace_7])), (a_text, .inr (12, [.ref a_text_bytes, .int text_size])), (a_text_bytes, .inl (g 0, 160, .inl text_bytes))] := hD
  obtain ⟨b_1, rfl, hw⟩ := hw_1
  refine lv_if_ne (tgt := 12) hx hb dX5_readTape_7 (by decide) (fun c_8 => ?_) (fun c_8 => ?_)
  · have hw := hw.2 (b2i_1 c_8)
    refine lv_iload_n hx hb dX5_readTape_12 rfl (lv_at hl 1 rfl) ?_
    refine lv_if_lt (tgt := 35) hx hb dX5_readTape_13 (by decide) (fun c_9 => ?_) (fun c_9 => ?_)
    · have hw := hw.1 c_9
      refine lv_iconst (v := 1) hx hb dX5_readTape_35 (by decide) ?_
      have hP9 := hP.sub (ws' := [(a_this, .inr (7, [.ref a_text, .ref a_operands, .ref a_told, .int wordKind_2, .int wordPlace_3, .int wordEnd_4, .int number_5, .int statementPlace, .int action, .int how, .int (b2i isLast), .int faultKind_6, .int faultPlace_7])), (a_text, .inr (12, [.ref a_text_bytes, .int text_size])), (a_operands, .inl (g 0, 3, .inl operands)), (a_text_bytes, .inl (g 0, 160, .inl text_bytes))]) [1, 2, 0, 3] rfl
      have hD9 := hD.sub (ws' := [(a_this, .inr (7, [.ref a_text, .ref a_operands, .ref a_told, .int wordKind_2, .int wordPlace_3, .int wordEnd_4, .int number_5, .int statementPlace, .int action, .int how, .int (b2i isLast), .int faultKind_6, .int faultPlace_7])), (a_text, .inr (12, [.ref a_text_bytes, .int text_size])), (a_operands, .inl (g 0, 3, .inl operands)), (a_text_bytes, .inl (g 0, 160, .inl text_bytes))]) [1, 2, 0, 3] (by decide) rfl
      exact W.zret (v := 1) hx hb hr rfl (fun t ht hW => ⟨⟨_, (wordKind_2, wordPlace_3, wordEnd_4, number_5, faultKind_6, faultPlace_7, operands, ()), rfl, ⟨true, rfl, hw⟩, ⟨P_at ht hP9, hD9⟩⟩, hS.F ht⟩) hS.2.2 dX5_readTape_36
    · have hw := hw.2 c_9
      refine lv_iload_n hx hb dX5_readTape_16 rfl (lv_at hl 1 rfl) ?_
      refine lv_aload_n hx hb dX5_readTape_17 rfl (lv_at hl 0 rfl) ?_
      refine va_get (D := (dC, dI)) (ci := 7) (v := .ref a_operands) (C := RX5) (T := TX5) (N := 13) hx hb hts hiX5 hown hK hP 1 rfl rfl 1 (by decide) hf18 (fun _ h9 => h9) rfl dX5_readTape_18 ?_
      refine va_alen hx hb hK hP 0 0 rfl rfl (v := 3) rfl dX5_readTape_21 ?_
      refine lv_icmp_ge (tgt := 35) hx hb dX5_readTape_22 (by decide) (fun c_10 => ?_) (fun c_10 => ?_)
      · have hw := hw.1 c_10
        refine lv_iconst (v := 1) hx hb dX5_readTape_35 (by decide) ?_
        have hP9 := hP.sub (ws' := [(a_this, .inr (7, [.ref a_text, .ref a_operands, .ref a_told, .int wordKind_2, .int wordPlace_3, .int wordEnd_4, .int number_5, .int statementPlace, .int action, .int how, .int (b2i isLast), .int faultKind_6, .int faultPlace_7])), (a_text, .inr (12, [.ref a_text_bytes, .int text_size])), (a_operands, .inl (g 0, 3, .inl operands)), (a_text_bytes, .inl (g 0, 160, .inl text_bytes))]) [1, 2, 0, 3] rfl
        have hD9 := hD.sub (ws' := [(a_this, .inr (7, [.ref a_text, .ref a_operands, .ref a_told, .int wordKind_2, .int wordPlace_3, .int wordEnd_4, .int number_5, .int statementPlace, .int action, .int how, .int (b2i isLast), .int faultKind_6, .int faultPlace_7])), (a_text, .inr (12, [.ref a_text_bytes, .int text_size])), (a_operands, .inl (g 0, 3, .inl operands)), (a_text_bytes, .inl (g 0, 160, .inl text_bytes))]) [1, 2, 0, 3] (by decide) rfl
        exact W.zret (v := 1) hx hb hr rfl (fun t ht hW => ⟨⟨_, (wordKind_2, wordPlace_3, wordEnd_4, number_5, faultKind_6, faultPlace_7, operands, ()), rfl, ⟨true, rfl, hw⟩, ⟨P_at ht hP9, hD9⟩⟩, hS.F ht⟩) hS.2.2 dX5_readTape_36
      · have hw := hw.2 c_10
        refine lv_aload_n hx hb dX5_readTape_25 rfl (lv_at hl 0 rfl) ?_
        refine va_get (D := (dC, dI)) (ci := 7) (v := .ref a_operands) (C := RX5) (T := TX5) (N := 13) hx hb hts hiX5 hown hK hP 1 rfl rfl 1 (by decide) hf18 (fun _ h9 => h9) rfl dX5_readTape_26 ?_
        refine lv_iload_n hx hb dX5_readTape_29 rfl (lv_at hl 1 rfl) ?_
        refine lv_aload_n hx hb dX5_readTape_30 rfl (lv_at hl 0 rfl) ?_
        refine va_get (D := (dC, dI)) (ci := 7) (v := .int number_5) (C := RX5) (T := TX5) (N := 13) hx hb hts hiX5 hown hK hP 1 rfl rfl 6 (by decide) hf39 (fun _ h9 => h9) rfl dX5_readTape_31 ?_
        refine va_iast hx hb hK hP hD hS 0 0 rfl rfl hw.1 dX5_readTape_34 (fun H_11 L_12 hP hD hS => ?_)
        have hw := hw.2
        have hP : va_P (dC, dI) vwCl [(a_operands, .inl (g 0, 3, .inl (upd operands slot.toNatClampNeg number_5))), (a_this, .inr (7, [.ref a_text, .ref a_operands, .ref a_told, .int wordKind_2, .int wordPlace_3, .int wordEnd_4, .int number_5, .int statementPlace, .int action, .int how, .int (b2i isLast), .int faultKind_6, .int faultPlace_7])), (a_text, .inr (12, [.ref a_text_bytes, .int text_size])), (a_text_bytes, .inl (g 0, 160, .inl text_bytes))] H_11 := hP
        have hD : va_D A [(a_operands, .inl (g 0, 3, .inl (upd operands slot.toNatClampNeg number_5))), (a_this, .inr (7, [.ref a_text, .ref a_operands, .ref a_told, .int wordKind_2, .int wordPlace_3, .int wordEnd_4, .int number_5, .int statementPlace, .int action, .int how, .int (b2i isLast), .int faultKind_6, .int faultPlace_7])), (a_text, .inr (12, [.ref a_text_bytes, .int text_size])), (a_text_bytes, .inl (g 0, 160, .inl text_bytes))] := hD
        refine lv_iconst (v := 1) hx hb dX5_readTape_35 (by decide) ?_
        have hP9 := hP.sub (ws' := [(a_this, .inr (7, [.ref a_text, .ref a_operands, .ref a_told, .int wordKind_2, .int wordPlace_3, .int wordEnd_4, .int number_5, .int statementPlace, .int action, .int how, .int (b2i isLast), .int faultKind_6, .int faultPlace_7])), (a_text, .inr (12, [.ref a_text_bytes, .int text_size])), (a_operands, .inl (g 0, 3, .inl (upd operands slot.toNatClampNeg number_5))), (a_text_bytes, .inl (g 0, 160, .inl text_bytes))]) [1, 2, 0, 3] rfl
        have hD9 := hD.sub (ws' := [(a_this, .inr (7, [.ref a_text, .ref a_operands, .ref a_told, .int wordKind_2, .int wordPlace_3, .int wordEnd_4, .int number_5, .int statementPlace, .int action, .int how, .int (b2i isLast), .int faultKind_6, .int faultPlace_7])), (a_text, .inr (12, [.ref a_text_bytes, .int text_size])), (a_operands, .inl (g 0, 3, .inl (upd operands slot.toNatClampNeg number_5))), (a_text_bytes, .inl (g 0, 160, .inl text_bytes))]) [1, 2, 0, 3] (by decide) rfl
        exact W.zret (v := 1) hx hb hr rfl (fun t ht hW => ⟨⟨_, (wordKind_2, wordPlace_3, wordEnd_4, number_5, faultKind_6, faultPlace_7, (upd operands slot.toNatClampNeg number_5), ()), rfl, ⟨true, rfl, hw⟩, ⟨P_at ht hP9, hD9⟩⟩, hS.F ht⟩) hS.2.2 dX5_readTape_36
  · have hw := hw.1 (b2i_0 c_8)
    refine lv_iconst (v := 0) hx hb dX5_readTape_10 (by decide) ?_
    have hP9 := hP.sub (ws' := [(a_this, .inr (7, [.ref a_text, .ref a_operands, .ref a_told, .int wordKind_2, .int wordPlace_3, .int wordEnd_4, .int number_5, .int statementPlace, .int action, .int how, .int (b2i isLast), .int faultKind_6, .int faultPlace_7])), (a_text, .inr (12, [.ref a_text_bytes, .int text_size])), (a_operands, .inl (g 0, 3, .inl operands)), (a_text_bytes, .inl (g 0, 160, .inl text_bytes))]) [1, 2, 0, 3] rfl
    have hD9 := hD.sub (ws' := [(a_this, .inr (7, [.ref a_text, .ref a_operands, .ref a_told, .int wordKind_2, .int wordPlace_3, .int wordEnd_4, .int number_5, .int statementPlace, .int action, .int how, .int (b2i isLast), .int faultKind_6, .int faultPlace_7])), (a_text, .inr (12, [.ref a_text_bytes, .int text_size])), (a_operands, .inl (g 0, 3, .inl operands)), (a_text_bytes, .inl (g 0, 160, .inl text_bytes))]) [1, 2, 0, 3] (by decide) rfl
    exact W.zret (v := 0) hx hb hr rfl (fun t ht hW => ⟨⟨_, (wordKind_2, wordPlace_3, wordEnd_4, number_5, faultKind_6, faultPlace_7, operands, ()), rfl, ⟨false, rfl, hw⟩, ⟨P_at ht hP9, hD9⟩⟩, hS.F ht⟩) hS.2.2 dX5_readTape_11
theorem dX5_readSingle_0 : decode cX5_readSingle 0 = .ok (.aload_n 0, 1) := by decide +kernel
theorem dX5_readSingle_1 : decode cX5_readSingle 1 = .ok (.iload_n 1, 1) := by decide +kernel
theorem dX5_readSingle_2 : decode cX5_readSingle 2 = .ok (.putfield 45, 3) := by decide +kernel
theorem dX5_readSingle_5 : decode cX5_readSingle 5 = .ok (.aload_n 0, 1) := by decide +kernel
theorem dX5_readSingle_6 : decode cX5_readSingle 6 = .ok (.iconst 0, 1) := by decide +kernel
theorem dX5_readSingle_7 : decode cX5_readSingle 7 = .ok (.invokevirtual 110, 3) := by decide +kernel
theorem dX5_readSingle_10 : decode cX5_readSingle 10 = .ok (.ifCond .eq 14, 3) := by decide +kernel
theorem dX5_readSingle_24 : decode cX5_readSingle 24 = .ok (.iconst 0, 1) := by decide +kernel
theorem dX5_readSingle_25 : decode cX5_readSingle 25 = .ok (.ireturn, 1) := by decide +kernel
theorem dX5_readSingle_13 : decode cX5_readSingle 13 = .ok (.aload_n 0, 1) := by decide +kernel
theorem dX5_readSingle_14 : decode cX5_readSingle 14 = .ok (.invokevirtual 84, 3) := by decide +kernel
theorem dX5_readSingle_17 : decode cX5_readSingle 17 = .ok (.ifCond .eq 7, 3) := by decide +kernel
theorem dX5_readSingle_20 : decode cX5_readSingle 20 = .ok (.iconst 1, 1) := by decide +kernel
theorem dX5_readSingle_21 : decode cX5_readSingle 21 = .ok (.goto 4, 3) := by decide +kernel
abbrev Wa_X5_readSingle (g : Nat → ClassId) (a_this : Nat) (a_text : Nat) (a_operands : Nat) (a_told : Nat) (wordKind : Int32) (wordPlace : Int32) (wordEnd : Int32) (number : Int32) (statementPlace : Int32) (action : Int32) (how : Int32) (isLast : Bool) (faultKind : Int32) (faultPlace : Int32) (a_text_bytes : Nat) (text_size : Int32) (operands : Nat → Int32) (text_bytes : Nat → Int32) : va_W := [(a_this, .inr (7, [.ref a_text, .ref a_operands, .ref a_told, .int wordKind, .int wordPlace, .int wordEnd, .int number, .int statementPlace, .int action, .int how, .int (b2i isLast), .int faultKind, .int faultPlace])), (a_text, .inr (12, [.ref a_text_bytes, .int text_size])), (a_operands, .inl (g 0, 3, .inl operands)), (a_text_bytes, .inl (g 0, 160, .inl text_bytes))]
abbrev Wb_X5_readSingle (g : Nat → ClassId) (a_this : Nat) (a_text : Nat) (a_operands : Nat) (a_told : Nat) (statementPlace : Int32) (how : Int32) (isLast : Bool) (a_text_bytes : Nat) (text_size : Int32) (text_bytes : Nat → Int32) (u : Int32 × Int32 × Int32 × Int32 × Int32 × Int32 × Int32 × (Nat → Int32) × Unit) : va_W := [(a_this, .inr (7, [.ref a_text, .ref a_operands, .ref a_told, .int u.1, .int u.2.1, .int u.2.2.1, .int u.2.2.2.1, .int statementPlace, .int u.2.2.2.2.1, .int how, .int (b2i isLast), .int u.2.2.2.2.2.1, .int u.2.2.2.2.2.2.1])), (a_text, .inr (12, [.ref a_text_bytes, .int text_size])), (a_operands, .inl (g 0, 3, .inl u.2.2.2.2.2.2.2.1)), (a_text_bytes, .inl (g 0, 160, .inl text_bytes))]
set_option maxHeartbeats 8000000 in
set_option maxRecDepth 100000 in
theorem c_X5_readSingle (l : Launch) (dC : Nat → ClassId) (dI : Nat → Nat → Nat) (g : Nat → ClassId) (a_this : Nat) (a_text : Nat) (a_operands : Nat) (a_told : Nat) (wordKind : Int32) (wordPlace : Int32) (wordEnd : Int32) (number : Int32) (statementPlace : Int32) (action : Int32) (how : Int32) (isLast : Bool) (faultKind : Int32) (faultPlace : Int32) (a_text_bytes : Nat) (text_size : Int32) (operands : Nat → Int32) (text_bytes : Nat → Int32) (what : Int32) (Q : Bool → Int32 → Int32 → Int32 → Int32 → Int32 → Int32 → Int32 → (Nat → Int32) → Prop) (hw : wp_X5_readSingle wordEnd number faultKind faultPlace text_size operands text_bytes what Q) (sz : Nat) : Met l yX5_readSingle wqX5_readSingle ({ frames := 4, cells := 0, slots := 0, locals := 85 }) (va_Pc [.ref a_this, .int what] (PG (dC, dI) g (Wa_X5_readSingle g a_this a_text a_operands a_told wordKind wordPlace wordEnd number statementPlace action how isLast faultKind faultPlace a_text_bytes text_size operands text_bytes) sz)) (va_Qi (fun (r : Int32) (u : Int32 × Int32 × Int32 × Int32 × Int32 × Int32 × Int32 × (Nat → Int32) × Unit) => ∃ b : Bool, r = b2i b ∧ Q b u.1 u.2.1 u.2.2.1 u.2.2.2.1 u.2.2.2.2.1 u.2.2.2.2.2.1 u.2.2.2.2.2.2.1 u.2.2.2.2.2.2.2.1) (fun (u : Int32 × Int32 × Int32 × Int32 × Int32 × Int32 × Int32 × (Nat → Int32) × Unit) t9 => va_P (dC, dI) vwCl (Wb_X5_readSingle g a_this a_text a_operands a_told statementPlace how isLast a_text_bytes text_size text_bytes u) t9.heap ∧ va_D (va_A (Wa_X5_readSingle g a_this a_text a_operands a_told wordKind wordPlace wordEnd number statementPlace action how isLast faultKind faultPlace a_text_bytes text_size operands text_bytes) sz) (Wb_X5_readSingle g a_this a_text a_operands a_told statementPlace how isLast a_text_bytes text_size text_bytes u)) (va_A (Wa_X5_readSingle g a_this a_text a_operands a_told wordKind wordPlace wordEnd number statementPlace action how isLast faultKind faultPlace a_text_bytes text_size operands text_bytes) sz)) 0 0 (va_A (Wa_X5_readSingle g a_this a_text a_operands a_told wordKind wordPlace wordEnd number statementPlace action how isLast faultKind faultPlace a_text_bytes text_size operands text_bytes) sz) := by
  refine Met.ofW (cc := cX5_readSingle) (maxL := 2) (ret := (some .boolean)) (by decide) rfl ?_
  intro p e s m args below meth c s₁ B hml hv
  obtain ⟨rfl, hsz, hP, hK, hD0, hG⟩ := hv
  have hx := B.exec
  have hb := B.bytes
  have hr := B.returns
  have hts := atoms_spec (ws := wqX5_readSingle) B.pre
  have hown : s.vm.findClass RX5 = some m.cls := findClass_of_methodNamed B.named
  have hlocks := B.notSynchronized
  subst hsz
  have hD := hD0.self (sz := s.heap.size)
  generalize hAe : va_A (Wa_X5_readSingle g a_this a_text a_operands a_told wordKind wordPlace wordEnd number statementPlace action how isLast faultKind faultPlace a_text_bytes text_size operands text_bytes) s.heap.size = A at hD hG ⊢
  have hA : ∀ q : Nat, s.heap.size ≤ q → A q := fun q h => by rw [← hAe]; exact Or.inr h
  have hS : va_S A s.heap s.heap [] := va_S.rf
  have hl := lv_entry ([.ref a_this, .int what]) (n := 2) (Nat.le_of_ble_eq_true rfl)
  rw [lg_entry_eq]
  generalize (lg_sl ([.ref a_this, .int what]) ++ List.replicate (2 - (lg_sl ([.ref a_this, .int what])).length) Slot.unset).toArray = ls at hl ⊢
  have hl : lv_has ls 2 [(0, .ref a_this), (1, .int what)] := hl
  unfold wp_X5_readSingle at hw
  have hf45 := hts (Cond.fieldLink RX5 45 "RunmergeOffice$Reader" "action" "I") (aw_l aw_2_89)
  have hiX5 : ∀ w ∈ u_ws RX5 TX5 13, w ∈ wqX5_readSingle := fun w h => aw_l (aw_wsX50 w h)
  refine lv_aload_n hx hb dX5_readSingle_0 rfl (lv_at hl 0 rfl) ?_
  refine lv_iload_n hx hb dX5_readSingle_1 rfl (lv_at hl 1 rfl) ?_
  refine va_put (D := (dC, dI)) (ci := 7) (v := .int what) (ty := .int) (C := RX5) (T := TX5) (N := 13) hx hb hts hiX5 tyX5 tyX5_ok nmX5 hown hK hP hD hS 0 rfl rfl 8 (by decide) hf45 (fun _ h9 => h9) rfl (by decide +kernel) rfl rfl (Nat.le_of_ble_eq_true rfl) dX5_readSingle_2 (fun H_1 L_2 hP hD hS => ?_)
  have hP : va_P (dC, dI) vwCl [(a_this, .inr (7, [.ref a_text, .ref a_operands, .ref a_told, .int wordKind, .int wordPlace, .int wordEnd, .int number, .int statementPlace, .int what, .int how, .int (b2i isLast), .int faultKind, .int faultPlace])), (a_text, .inr (12, [.ref a_text_bytes, .int text_size])), (a_operands, .inl (g 0, 3, .inl operands)), (a_text_bytes, .inl (g 0, 160, .inl text_bytes))] H_1 := hP
  have hD : va_D A [(a_this, .inr (7, [.ref a_text, .ref a_operands, .ref a_told, .int wordKind, .int wordPlace, .int wordEnd, .int number, .int statementPlace, .int what, .int how, .int (b2i isLast), .int faultKind, .int faultPlace])), (a_text, .inr (12, [.ref a_text_bytes, .int text_size])), (a_operands, .inl (g 0, 3, .inl operands)), (a_text_bytes, .inl (g 0, 160, .inl text_bytes))] := hD
  refine lv_aload_n hx hb dX5_readSingle_5 rfl (lv_at hl 0 rfl) ?_
  refine lv_iconst (v := 0) hx hb dX5_readSingle_6 (by decide) ?_
  have hPc := hP.sub (ws' := [(a_this, .inr (7, [.ref a_text, .ref a_operands, .ref a_told, .int wordKind, .int wordPlace, .int wordEnd, .int number, .int statementPlace, .int what, .int how, .int (b2i isLast), .int faultKind, .int faultPlace])), (a_text, .inr (12, [.ref a_text_bytes, .int text_size])), (a_operands, .inl (g 0, 3, .inl operands)), (a_text_bytes, .inl (g 0, 160, .inl text_bytes))]) [0, 1, 2, 3] rfl
  have hDc := hD.sub (ws' := [(a_this, .inr (7, [.ref a_text, .ref a_operands, .ref a_told, .int wordKind, .int wordPlace, .int wordEnd, .int number, .int statementPlace, .int what, .int how, .int (b2i isLast), .int faultKind, .int faultPlace])), (a_text, .inr (12, [.ref a_text_bytes, .int text_size])), (a_operands, .inl (g 0, 3, .inl operands)), (a_text_bytes, .inl (g 0, 160, .inl text_bytes))]) [0, 1, 2, 3] (by decide) rfl
  have hFc := va_free (wc := [(a_this, .inr (7, [.ref a_text, .ref a_operands, .ref a_told, .int wordKind, .int wordPlace, .int wordEnd, .int number, .int statementPlace, .int what, .int how, .int (b2i isLast), .int faultKind, .int faultPlace])), (a_text, .inr (12, [.ref a_text_bytes, .int text_size])), (a_operands, .inl (g 0, 3, .inl operands)), (a_text_bytes, .inl (g 0, 160, .inl text_bytes))]) hD hS hA [0, 1, 2, 3] rfl
  refine va_calli (va_runV (As := [.int 0]) (rest := []) ⟨hx, hb, hml, hown, hts⟩ (c_X5_readTape l dC dI g (a_this := a_this) (a_text := a_text) (a_operands := a_operands) (a_told := a_told) (wordKind := wordKind) (wordPlace := wordPlace) (wordEnd := wordEnd) (number := number) (statementPlace := statementPlace) (action := what) (how := how) (isLast := isLast) (faultKind := faultKind) (faultPlace := faultPlace) (a_text_bytes := a_text_bytes) (text_size := text_size) (operands := operands) (text_bytes := text_bytes) (slot := 0) (hw := hw) (sz := H_1.size)) (cwV 1 hts (gqV aw_5_132 aw_5_134 aw_0_35 aw_1_10 aw_5_135) rfl rfl rfl (by decide +kernel) ⟨Nat.le_of_ble_eq_true rfl, Nat.le_of_ble_eq_true rfl⟩) ⟨PG_blind, va_recv hK hP (ci := 7) (q0 := 0) rfl rfl, PG_call hK hG hS hPc hDc hFc⟩ rfl rfl hl.1 rfl (lv_room (Nat.le_of_ble_eq_true rfl)) dX5_readSingle_7 ⟨Nat.le_of_ble_eq_true rfl, Nat.le_of_ble_eq_true rfl⟩) hS (fun q _ h => hFc q h) hFc (fun r_3 u_3 t_3 H_3 L_3 ht_3 hvm_3 hw_3 hB_3 hz_3 hk_3 hS => ?_)
  obtain ⟨wordKind_4, wordPlace_5, wordEnd_6, number_7, faultKind_8, faultPlace_9, operands_10, u_3⟩ := u_3
  obtain ⟨hP1, hD1⟩ := hB_3
  rw [ht_3] at hP1
  obtain ⟨hP, hD⟩ := va_join (wr := []) (w1 := [(a_this, .inr (7, [.ref a_text, .ref a_operands, .ref a_told, .int wordKind_4, .int wordPlace_5, .int wordEnd_6, .int number_7, .int statementPlace, .int what, .int how, .int (b2i isLast), .int faultKind_8, .int faultPlace_9])), (a_text, .inr (12, [.ref a_text_bytes, .int text_size])), (a_operands, .inl (g 0, 3, .inl operands_10)), (a_text_bytes, .inl (g 0, 160, .inl text_bytes))]) hP hD [0, 1, 2, 3] [] rfl rfl (by decide) (by decide) hk_3 hFc hP1 hD1
  have hP : va_P (dC, dI) vwCl [(a_this, .inr (7, [.ref a_text, .ref a_operands, .ref a_told, .int wordKind_4, .int wordPlace_5, .int wordEnd_6, .int number_7, .int statementPlace, .int what, .int how, .int (b2i isLast), .int faultKind_8, .int faultPlace_9])), (a_text, .inr (12, [.ref a_text_bytes, .int text_size])), (a_operands, .inl (g 0, 3, .inl operands_10)), (a_text_bytes, .inl (g 0, 160, .inl text_bytes))] H_3 := hP
  have hD : va_D A [(a_this, .inr (7, [.ref a_text, .ref a_operands, .ref a_told, .int wordKind_4, .int wordPlace_5, .int wordEnd_6, .int number_7, .int statementPlace, .int what, .int how, .int (b2i isLast), .int faultKind_8, .int faultPlace_9])), (a_text, .inr (12, [.ref a_text_bytes, .int text_size])), (a_operands, .inl (g 0, 3, .inl operands_10)), (a_text_bytes, .inl (g 0, 160, .inl text_bytes))] := hD
  obtain ⟨b_3, rfl, hw⟩ := hw_3
  refine lv_if_eq (tgt := 24) hx hb dX5_readSingle_10 (by decide) (fun c_11 => ?_) (fun c_11 => ?_)
  · have hw := hw.1 (b2i_0 c_11)
    refine lv_iconst (v := 0) hx hb dX5_readSingle_24 (by decide) ?_
    have hP9 := hP.sub (ws' := [(a_this, .inr (7, [.ref a_text, .ref a_operands, .ref a_told, .int wordKind_4, .int wordPlace_5, .int wordEnd_6, .int number_7, .int statementPlace, .int what, .int how, .int (b2i isLast), .int faultKind_8, .int faultPlace_9])), (a_text, .inr (12, [.ref a_text_bytes, .int text_size])), (a_operands, .inl (g 0, 3, .inl operands_10)), (a_text_bytes, .inl (g 0, 160, .inl text_bytes))]) [0, 1, 2, 3] rfl
    have hD9 := hD.sub (ws' := [(a_this, .inr (7, [.ref a_text, .ref a_operands, .ref a_told, .int wordKind_4, .int wordPlace_5, .int wordEnd_6, .int number_7, .int statementPlace, .int what, .int how, .int (b2i isLast), .int faultKind_8, .int faultPlace_9])), (a_text, .inr (12, [.ref a_text_bytes, .int text_size])), (a_operands, .inl (g 0, 3, .inl operands_10)), (a_text_bytes, .inl (g 0, 160, .inl text_bytes))]) [0, 1, 2, 3] (by decide) rfl
    exact W.zret (v := 0) hx hb hr rfl (fun t ht hW => ⟨⟨_, (wordKind_4, wordPlace_5, wordEnd_6, number_7, what, faultKind_8, faultPlace_9, operands_10, ()), rfl, ⟨false, rfl, hw⟩, ⟨P_at ht hP9, hD9⟩⟩, hS.F ht⟩) hS.2.2 dX5_readSingle_25
  · have hw := hw.2 (b2i_1 c_11)
    refine lv_aload_n hx hb dX5_readSingle_13 rfl (lv_at hl 0 rfl) ?_
    have hPc := hP.sub (ws' := [(a_this, .inr (7, [.ref a_text, .ref a_operands, .ref a_told, .int wordKind_4, .int wordPlace_5, .int wordEnd_6, .int number_7, .int statementPlace, .int what, .int how, .int (b2i isLast), .int faultKind_8, .int faultPlace_9])), (a_text, .inr (12, [.ref a_text_bytes, .int text_size])), (a_text_bytes, .inl (g 0, 160, .inl text_bytes))]) [0, 1, 3] rfl
    have hDc := hD.sub (ws' := [(a_this, .inr (7, [.ref a_text, .ref a_operands, .ref a_told, .int wordKind_4, .int wordPlace_5, .int wordEnd_6, .int number_7, .int statementPlace, .int what, .int how, .int (b2i isLast), .int faultKind_8, .int faultPlace_9])), (a_text, .inr (12, [.ref a_text_bytes, .int text_size])), (a_text_bytes, .inl (g 0, 160, .inl text_bytes))]) [0, 1, 3] (by decide) rfl
    have hFc := va_free (wc := [(a_this, .inr (7, [.ref a_text, .ref a_operands, .ref a_told, .int wordKind_4, .int wordPlace_5, .int wordEnd_6, .int number_7, .int statementPlace, .int what, .int how, .int (b2i isLast), .int faultKind_8, .int faultPlace_9])), (a_text, .inr (12, [.ref a_text_bytes, .int text_size])), (a_text_bytes, .inl (g 0, 160, .inl text_bytes))]) hD hS hA [0, 1, 3] rfl
    refine va_calli (va_runV (As := []) (rest := []) ⟨hx, hb, hml, hown, hts⟩ (c_X5_readSign l dC dI g (a_this := a_this) (a_text := a_text) (a_operands := a_operands) (a_told := a_told) (wordKind := wordKind_4) (wordPlace := wordPlace_5) (wordEnd := wordEnd_6) (number := number_7) (statementPlace := statementPlace) (action := what) (how := how) (isLast := isLast) (faultKind := faultKind_8) (faultPlace := faultPlace_9) (a_text_bytes := a_text_bytes) (text_size := text_size) (text_bytes := text_bytes) (hw := hw) (sz := H_3.size)) (cwV 0 hts (gqV aw_5_167 aw_5_169 aw_0_41 aw_1_10 aw_5_170) rfl rfl rfl (by decide +kernel) ⟨Nat.le_of_ble_eq_true rfl, Nat.le_of_ble_eq_true rfl⟩) ⟨PG_blind, va_recv hK hP (ci := 7) (q0 := 0) rfl rfl, PG_call hK hG hS hPc hDc hFc⟩ rfl rfl hl.1 rfl (lv_room (Nat.le_of_ble_eq_true rfl)) dX5_readSingle_14 ⟨Nat.le_of_ble_eq_true rfl, Nat.le_of_ble_eq_true rfl⟩) hS (fun q _ h => hFc q h) hFc (fun r_12 u_12 t_12 H_12 L_12 ht_12 hvm_12 hw_12 hB_12 hz_12 hk_12 hS => ?_)
    obtain ⟨wordKind_13, wordPlace_14, wordEnd_15, faultKind_16, faultPlace_17, u_12⟩ := u_12
    obtain ⟨hP1, hD1⟩ := hB_12
    rw [ht_12] at hP1
    obtain ⟨hP, hD⟩ := va_join (wr := [(a_operands, .inl (g 0, 3, .inl operands_10))]) (w1 := [(a_this, .inr (7, [.ref a_text, .ref a_operands, .ref a_told, .int wordKind_13, .int wordPlace_14, .int wordEnd_15, .int number_7, .int statementPlace, .int what, .int how, .int (b2i isLast), .int faultKind_16, .int faultPlace_17])), (a_text, .inr (12, [.ref a_text_bytes, .int text_size])), (a_text_bytes, .inl (g 0, 160, .inl text_bytes))]) hP hD [0, 1, 3] [2] rfl rfl (by decide) (by decide) hk_12 hFc hP1 hD1
    have hP : va_P (dC, dI) vwCl [(a_operands, .inl (g 0, 3, .inl operands_10)), (a_this, .inr (7, [.ref a_text, .ref a_operands, .ref a_told, .int wordKind_13, .int wordPlace_14, .int wordEnd_15, .int number_7, .int statementPlace, .int what, .int how, .int (b2i isLast), .int faultKind_16, .int faultPlace_17])), (a_text, .inr (12, [.ref a_text_bytes, .int text_size])), (a_text_bytes, .inl (g 0, 160, .inl text_bytes))] H_12 := hP
    have hD : va_D A [(a_operands, .inl (g 0, 3, .inl operands_10)), (a_this, .inr (7, [.ref a_text, .ref a_operands, .ref a_told, .int wordKind_13, .int wordPlace_14, .int wordEnd_15, .int number_7, .int statementPlace, .int what, .int how, .int (b2i isLast), .int faultKind_16, .int faultPlace_17])), (a_text, .inr (12, [.ref a_text_bytes, .int text_size])), (a_text_bytes, .inl (g 0, 160, .inl text_bytes))] := hD
    obtain ⟨b_12, rfl, hw⟩ := hw_12
    refine lv_if_eq (tgt := 24) hx hb dX5_readSingle_17 (by decide) (fun c_18 => ?_) (fun c_18 => ?_)
    · have hw := hw.1 (b2i_0 c_18)
      refine lv_iconst (v := 0) hx hb dX5_readSingle_24 (by decide) ?_
      have hP9 := hP.sub (ws' := [(a_this, .inr (7, [.ref a_text, .ref a_operands, .ref a_told, .int wordKind_13, .int wordPlace_14, .int wordEnd_15, .int number_7, .int statementPlace, .int what, .int how, .int (b2i isLast), .int faultKind_16, .int faultPlace_17])), (a_text, .inr (12, [.ref a_text_bytes, .int text_size])), (a_operands, .inl (g 0, 3, .inl operands_10)), (a_text_bytes, .inl (g 0, 160, .inl text_bytes))]) [1, 2, 0, 3] rfl
      have hD9 := hD.sub (ws' := [(a_this, .inr (7, [.ref a_text, .ref a_operands, .ref a_told, .int wordKind_13, .int wordPlace_14, .int wordEnd_15, .int number_7, .int statementPlace, .int what, .int how, .int (b2i isLast), .int faultKind_16, .int faultPlace_17])), (a_text, .inr (12, [.ref a_text_bytes, .int text_size])), (a_operands, .inl (g 0, 3, .inl operands_10)), (a_text_bytes, .inl (g 0, 160, .inl text_bytes))]) [1, 2, 0, 3] (by decide) rfl
      exact W.zret (v := 0) hx hb hr rfl (fun t ht hW => ⟨⟨_, (wordKind_13, wordPlace_14, wordEnd_15, number_7, what, faultKind_16, faultPlace_17, operands_10, ()), rfl, ⟨false, rfl, hw⟩, ⟨P_at ht hP9, hD9⟩⟩, hS.F ht⟩) hS.2.2 dX5_readSingle_25
    · have hw := hw.2 (b2i_1 c_18)
      refine lv_iconst (v := 1) hx hb dX5_readSingle_20 (by decide) ?_
      refine lv_goto (tgt := 25) hx hb dX5_readSingle_21 (by decide) ?_
      have hP9 := hP.sub (ws' := [(a_this, .inr (7, [.ref a_text, .ref a_operands, .ref a_told, .int wordKind_13, .int wordPlace_14, .int wordEnd_15, .int number_7, .int statementPlace, .int what, .int how, .int (b2i isLast), .int faultKind_16, .int faultPlace_17])), (a_text, .inr (12, [.ref a_text_bytes, .int text_size])), (a_operands, .inl (g 0, 3, .inl operands_10)), (a_text_bytes, .inl (g 0, 160, .inl text_bytes))]) [1, 2, 0, 3] rfl
      have hD9 := hD.sub (ws' := [(a_this, .inr (7, [.ref a_text, .ref a_operands, .ref a_told, .int wordKind_13, .int wordPlace_14, .int wordEnd_15, .int number_7, .int statementPlace, .int what, .int how, .int (b2i isLast), .int faultKind_16, .int faultPlace_17])), (a_text, .inr (12, [.ref a_text_bytes, .int text_size])), (a_operands, .inl (g 0, 3, .inl operands_10)), (a_text_bytes, .inl (g 0, 160, .inl text_bytes))]) [1, 2, 0, 3] (by decide) rfl
      exact W.zret (v := 1) hx hb hr rfl (fun t ht hW => ⟨⟨_, (wordKind_13, wordPlace_14, wordEnd_15, number_7, what, faultKind_16, faultPlace_17, operands_10, ()), rfl, ⟨true, rfl, hw⟩, ⟨P_at ht hP9, hD9⟩⟩, hS.F ht⟩) hS.2.2 dX5_readSingle_25
theorem dX5_readCombining_0 : decode cX5_readCombining 0 = .ok (.aload_n 0, 1) := by decide +kernel
theorem dX5_readCombining_1 : decode cX5_readCombining 1 = .ok (.iconst 1, 1) := by decide +kernel
theorem dX5_readCombining_2 : decode cX5_readCombining 2 = .ok (.putfield 45, 3) := by decide +kernel
theorem dX5_readCombining_5 : decode cX5_readCombining 5 = .ok (.aload_n 0, 1) := by decide +kernel
theorem dX5_readCombining_6 : decode cX5_readCombining 6 = .ok (.iload_n 1, 1) := by decide +kernel
theorem dX5_readCombining_7 : decode cX5_readCombining 7 = .ok (.putfield 48, 3) := by decide +kernel
theorem dX5_readCombining_10 : decode cX5_readCombining 10 = .ok (.aload_n 0, 1) := by decide +kernel
theorem dX5_readCombining_11 : decode cX5_readCombining 11 = .ok (.iconst 0, 1) := by decide +kernel
theorem dX5_readCombining_12 : decode cX5_readCombining 12 = .ok (.invokevirtual 110, 3) := by decide +kernel
theorem dX5_readCombining_15 : decode cX5_readCombining 15 = .ok (.ifCond .eq 37, 3) := by decide +kernel
theorem dX5_readCombining_52 : decode cX5_readCombining 52 = .ok (.iconst 0, 1) := by decide +kernel
theorem dX5_readCombining_53 : decode cX5_readCombining 53 = .ok (.ireturn, 1) := by decide +kernel
theorem dX5_readCombining_18 : decode cX5_readCombining 18 = .ok (.aload_n 0, 1) := by decide +kernel
theorem dX5_readCombining_19 : decode cX5_readCombining 19 = .ok (.iconst 1, 1) := by decide +kernel
theorem dX5_readCombining_20 : decode cX5_readCombining 20 = .ok (.invokevirtual 110, 3) := by decide +kernel
theorem dX5_readCombining_23 : decode cX5_readCombining 23 = .ok (.ifCond .eq 29, 3) := by decide +kernel
theorem dX5_readCombining_26 : decode cX5_readCombining 26 = .ok (.aload_n 0, 1) := by decide +kernel
theorem dX5_readCombining_27 : decode cX5_readCombining 27 = .ok (.invokevirtual 113, 3) := by decide +kernel
theorem dX5_readCombining_30 : decode cX5_readCombining 30 = .ok (.ifCond .eq 22, 3) := by decide +kernel
theorem dX5_readCombining_33 : decode cX5_readCombining 33 = .ok (.aload_n 0, 1) := by decide +kernel
theorem dX5_readCombining_34 : decode cX5_readCombining 34 = .ok (.iconst 2, 1) := by decide +kernel
theorem dX5_readCombining_35 : decode cX5_readCombining 35 = .ok (.invokevirtual 110, 3) := by decide +kernel
theorem dX5_readCombining_38 : decode cX5_readCombining 38 = .ok (.ifCond .eq 14, 3) := by decide +kernel
theorem dX5_readCombining_41 : decode cX5_readCombining 41 = .ok (.aload_n 0, 1) := by decide +kernel
theorem dX5_readCombining_42 : decode cX5_readCombining 42 = .ok (.invokevirtual 84, 3) := by decide +kernel
theorem dX5_readCombining_45 : decode cX5_readCombining 45 = .ok (.ifCond .eq 7, 3) := by decide +kernel
theorem dX5_readCombining_48 : decode cX5_readCombining 48 = .ok (.iconst 1, 1) := by decide +kernel
theorem dX5_readCombining_49 : decode cX5_readCombining 49 = .ok (.goto 4, 3) := by decide +kernel
abbrev Wa_X5_readCombining (g : Nat → ClassId) (a_this : Nat) (a_text : Nat) (a_operands : Nat) (a_told : Nat) (wordKind : Int32) (wordPlace : Int32) (wordEnd : Int32) (number : Int32) (statementPlace : Int32) (action : Int32) (how : Int32) (isLast : Bool) (faultKind : Int32) (faultPlace : Int32) (a_text_bytes : Nat) (text_size : Int32) (operands : Nat → Int32) (text_bytes : Nat → Int32) : va_W := [(a_this, .inr (7, [.ref a_text, .ref a_operands, .ref a_told, .int wordKind, .int wordPlace, .int wordEnd, .int number, .int statementPlace, .int action, .int how, .int (b2i isLast), .int faultKind, .int faultPlace])), (a_text, .inr (12, [.ref a_text_bytes, .int text_size])), (a_operands, .inl (g 0, 3, .inl operands)), (a_text_bytes, .inl (g 0, 160, .inl text_bytes))]
abbrev Wb_X5_readCombining (g : Nat → ClassId) (a_this : Nat) (a_text : Nat) (a_operands : Nat) (a_told : Nat) (statementPlace : Int32) (isLast : Bool) (a_text_bytes : Nat) (text_size : Int32) (text_bytes : Nat → Int32) (u : Int32 × Int32 × Int32 × Int32 × Int32 × Int32 × Int32 × Int32 × (Nat → Int32) × Unit) : va_W := [(a_this, .inr (7, [.ref a_text, .ref a_operands, .ref a_told, .int u.1, .int u.2.1, .int u.2.2.1, .int u.2.2.2.1, .int statementPlace, .int u.2.2.2.2.1, .int u.2.2.2.2.2.1, .int (b2i isLast), .int u.2.2.2.2.2.2.1, .int u.2.2.2.2.2.2.2.1])), (a_text, .inr (12, [.ref a_text_bytes, .int text_size])), (a_operands, .inl (g 0, 3, .inl u.2.2.2.2.2.2.2.2.1)), (a_text_bytes, .inl (g 0, 160, .inl text_bytes))]
set_option maxHeartbeats 8000000 in
set_option maxRecDepth 100000 in
theorem c_X5_readCombining (l : Launch) (dC : Nat → ClassId) (dI : Nat → Nat → Nat) (g : Nat → ClassId) (a_this : Nat) (a_text : Nat) (a_operands : Nat) (a_told : Nat) (wordKind : Int32) (wordPlace : Int32) (wordEnd : Int32) (number : Int32) (statementPlace : Int32) (action : Int32) (how : Int32) (isLast : Bool) (faultKind : Int32) (faultPlace : Int32) (a_text_bytes : Nat) (text_size : Int32) (operands : Nat → Int32) (text_bytes : Nat → Int32) (toDo : Int32) (Q : Bool → Int32 → Int32 → Int32 → Int32 → Int32 → Int32 → Int32 → Int32 → (Nat → Int32) → Prop) (hw : wp_X5_readCombining wordEnd number faultKind faultPlace text_size operands text_bytes toDo Q) (sz : Nat) : Met l yX5_readCombining wqX5_readCombining ({ frames := 12, cells := 0, slots := 0, locals := 162 }) (va_Pc [.ref a_this, .int toDo] (PG (dC, dI) g (Wa_X5_readCombining g a_this a_text a_operands a_told wordKind wordPlace wordEnd number statementPlace action how isLast faultKind faultPlace a_text_bytes text_size operands text_bytes) sz)) (va_Qi (fun (r : Int32) (u : Int32 × Int32 × Int32 × Int32 × Int32 × Int32 × Int32 × Int32 × (Nat → Int32) × Unit) => ∃ b : Bool, r = b2i b ∧ Q b u.1 u.2.1 u.2.2.1 u.2.2.2.1 u.2.2.2.2.1 u.2.2.2.2.2.1 u.2.2.2.2.2.2.1 u.2.2.2.2.2.2.2.1 u.2.2.2.2.2.2.2.2.1) (fun (u : Int32 × Int32 × Int32 × Int32 × Int32 × Int32 × Int32 × Int32 × (Nat → Int32) × Unit) t9 => va_P (dC, dI) vwCl (Wb_X5_readCombining g a_this a_text a_operands a_told statementPlace isLast a_text_bytes text_size text_bytes u) t9.heap ∧ va_D (va_A (Wa_X5_readCombining g a_this a_text a_operands a_told wordKind wordPlace wordEnd number statementPlace action how isLast faultKind faultPlace a_text_bytes text_size operands text_bytes) sz) (Wb_X5_readCombining g a_this a_text a_operands a_told statementPlace isLast a_text_bytes text_size text_bytes u)) (va_A (Wa_X5_readCombining g a_this a_text a_operands a_told wordKind wordPlace wordEnd number statementPlace action how isLast faultKind faultPlace a_text_bytes text_size operands text_bytes) sz)) 0 0 (va_A (Wa_X5_readCombining g a_this a_text a_operands a_told wordKind wordPlace wordEnd number statementPlace action how isLast faultKind faultPlace a_text_bytes text_size operands text_bytes) sz) := by
  refine Met.ofW (cc := cX5_readCombining) (maxL := 2) (ret := (some .boolean)) (by decide) rfl ?_
  intro p e s m args below meth c s₁ B hml hv
  obtain ⟨rfl, hsz, hP, hK, hD0, hG⟩ := hv
  have hx := B.exec
  have hb := B.bytes
  have hr := B.returns
  have hts := atoms_spec (ws := wqX5_readCombining) B.pre
  have hown : s.vm.findClass RX5 = some m.cls := findClass_of_methodNamed B.named
  have hlocks := B.notSynchronized
  subst hsz
  have hD := hD0.self (sz := s.heap.size)
  generalize hAe : va_A (Wa_X5_readCombining g a_this a_text a_operands a_told wordKind wordPlace wordEnd number statementPlace action how isLast faultKind faultPlace a_text_bytes text_size operands text_bytes) s.heap.size = A at hD hG ⊢
  have hA : ∀ q : Nat, s.heap.size ≤ q → A q := fun q h => by rw [← hAe]; exact Or.inr h
  have hS : va_S A s.heap s.heap [] := va_S.rf
  have hl := lv_entry ([.ref a_this, .int toDo]) (n := 2) (Nat.le_of_ble_eq_true rfl)
  rw [lg_entry_eq]
  generalize (lg_sl ([.ref a_this, .int toDo]) ++ List.replicate (2 - (lg_sl ([.ref a_this, .int toDo])).length) Slot.unset).toArray = ls at hl ⊢
  have hl : lv_has ls 2 [(0, .ref a_this), (1, .int toDo)] := hl
  unfold wp_X5_readCombining at hw
  have hf45 := hts (Cond.fieldLink RX5 45 "RunmergeOffice$Reader" "action" "I") (aw_l aw_2_89)
  have hiX5 : ∀ w ∈ u_ws RX5 TX5 13, w ∈ wqX5_readCombining := fun w h => aw_l (aw_wsX50 w h)
  have hf48 := hts (Cond.fieldLink RX5 48 "RunmergeOffice$Reader" "how" "I") (aw_l aw_2_91)
  refine lv_aload_n hx hb dX5_readCombining_0 rfl (lv_at hl 0 rfl) ?_
  refine lv_iconst (v := 1) hx hb dX5_readCombining_1 (by decide) ?_
  refine va_put (D := (dC, dI)) (ci := 7) (v := .int 1) (ty := .int) (C := RX5) (T := TX5) (N := 13) hx hb hts hiX5 tyX5 tyX5_ok nmX5 hown hK hP hD hS 0 rfl rfl 8 (by decide) hf45 (fun _ h9 => h9) rfl (by decide +kernel) rfl rfl (Nat.le_of_ble_eq_true rfl) dX5_readCombining_2 (fun H_1 L_2 hP hD hS => ?_)
  have hP : va_P (dC, dI) vwCl [(a_this, .inr (7, [.ref a_text, .ref a_operands, .ref a_told, .int wordKind, .int wordPlace, .int wordEnd, .int number, .int statementPlace, .int 1, .int how, .int (b2i isLast), .int faultKind, .int faultPlace])), (a_text, .inr (12, [.ref a_text_bytes, .int text_size])), (a_operands, .inl (g 0, 3, .inl operands)), (a_text_bytes, .inl (g 0, 160, .inl text_bytes))] H_1 := hP
  have hD : va_D A [(a_this, .inr (7, [.ref a_text, .ref a_operands, .ref a_told, .int wordKind, .int wordPlace, .int wordEnd, .int number, .int statementPlace, .int 1, .int how, .int (b2i isLast), .int faultKind, .int faultPlace])), (a_text, .inr (12, [.ref a_text_bytes, .int text_size])), (a_operands, .inl (g 0, 3, .inl operands)), (a_text_bytes, .inl (g 0, 160, .inl text_bytes))] := hD
  refine lv_aload_n hx hb dX5_readCombining_5 rfl (lv_at hl 0 rfl) ?_
  refine lv_iload_n hx hb dX5_readCombining_6 rfl (lv_at hl 1 rfl) ?_
  refine va_put (D := (dC, dI)) (ci := 7) (v := .int toDo) (ty := .int) (C := RX5) (T := TX5) (N := 13) hx hb hts hiX5 tyX5 tyX5_ok nmX5 hown hK hP hD hS 0 rfl rfl 9 (by decide) hf48 (fun _ h9 => h9) rfl (by decide +kernel) rfl rfl (Nat.le_of_ble_eq_true rfl) dX5_readCombining_7 (fun H_3 L_4 hP hD hS => ?_)
  have hP : va_P (dC, dI) vwCl [(a_this, .inr (7, [.ref a_text, .ref a_operands, .ref a_told, .int wordKind, .int wordPlace, .int wordEnd, .int number, .int statementPlace, .int 1, .int toDo, .int (b2i isLast), .int faultKind, .int faultPlace])), (a_text, .inr (12, [.ref a_text_bytes, .int text_size])), (a_operands, .inl (g 0, 3, .inl operands)), (a_text_bytes, .inl (g 0, 160, .inl text_bytes))] H_3 := hP
  have hD : va_D A [(a_this, .inr (7, [.ref a_text, .ref a_operands, .ref a_told, .int wordKind, .int wordPlace, .int wordEnd, .int number, .int statementPlace, .int 1, .int toDo, .int (b2i isLast), .int faultKind, .int faultPlace])), (a_text, .inr (12, [.ref a_text_bytes, .int text_size])), (a_operands, .inl (g 0, 3, .inl operands)), (a_text_bytes, .inl (g 0, 160, .inl text_bytes))] := hD
  refine lv_aload_n hx hb dX5_readCombining_10 rfl (lv_at hl 0 rfl) ?_
  refine lv_iconst (v := 0) hx hb dX5_readCombining_11 (by decide) ?_
  have hPc := hP.sub (ws' := [(a_this, .inr (7, [.ref a_text, .ref a_operands, .ref a_told, .int wordKind, .int wordPlace, .int wordEnd, .int number, .int statementPlace, .int 1, .int toDo, .int (b2i isLast), .int faultKind, .int faultPlace])), (a_text, .inr (12, [.ref a_text_bytes, .int text_size])), (a_operands, .inl (g 0, 3, .inl operands)), (a_text_bytes, .inl (g 0, 160, .inl text_bytes))]) [0, 1, 2, 3] rfl
  have hDc := hD.sub (ws' := [(a_this, .inr (7, [.ref a_text, .ref a_operands, .ref a_told, .int wordKind, .int wordPlace, .int wordEnd, .int number, .int statementPlace, .int 1, .int toDo, .int (b2i isLast), .int faultKind, .int faultPlace])), (a_text, .inr (12, [.ref a_text_bytes, .int text_size])), (a_operands, .inl (g 0, 3, .inl operands)), (a_text_bytes, .inl (g 0, 160, .inl text_bytes))]) [0, 1, 2, 3] (by decide) rfl
  have hFc := va_free (wc := [(a_this, .inr (7, [.ref a_text, .ref a_operands, .ref a_told, .int wordKind, .int wordPlace, .int wordEnd, .int number, .int statementPlace, .int 1, .int toDo, .int (b2i isLast), .int faultKind, .int faultPlace])), (a_text, .inr (12, [.ref a_text_bytes, .int text_size])), (a_operands, .inl (g 0, 3, .inl operands)), (a_text_bytes, .inl (g 0, 160, .inl text_bytes))]) hD hS hA [0, 1, 2, 3] rfl
  refine va_calli (va_runV (As := [.int 0]) (rest := []) ⟨hx, hb, hml, hown, hts⟩ (c_X5_readTape l dC dI g (a_this := a_this) (a_text := a_text) (a_operands := a_operands) (a_told := a_told) (wordKind := wordKind) (wordPlace := wordPlace) (wordEnd := wordEnd) (number := number) (statementPlace := statementPlace) (action := 1) (how := toDo) (isLast := isLast) (faultKind := faultKind) (faultPlace := faultPlace) (a_text_bytes := a_text_bytes) (text_size := text_size) (operands := operands) (text_bytes := text_bytes) (slot := 0) (hw := hw) (sz := H_3.size)) (cwV 1 hts (gqV aw_5_132 aw_5_134 aw_0_35 aw_1_10 aw_5_135) rfl rfl rfl (by decide +kernel) ⟨Nat.le_of_ble_eq_true rfl, Nat.le_of_ble_eq_true rfl⟩) ⟨PG_blind, va_recv hK hP (ci := 7) (q0 := 0) rfl rfl, PG_call hK hG hS hPc hDc hFc⟩ rfl rfl hl.1 rfl (lv_room (Nat.le_of_ble_eq_true rfl)) dX5_readCombining_12 ⟨Nat.le_of_ble_eq_true rfl, Nat.le_of_ble_eq_true rfl⟩) hS (fun q _ h => hFc q h) hFc (fun r_5 u_5 t_5 H_5 L_5 ht_5 hvm_5 hw_5 hB_5 hz_5 hk_5 hS => ?_)
  obtain ⟨wordKind_6, wordPlace_7, wordEnd_8, number_9, faultKind_10, faultPlace_11, operands_12, u_5⟩ := u_5
  obtain ⟨hP1, hD1⟩ := hB_5
  rw [ht_5] at hP1
  obtain ⟨hP, hD⟩ := va_join (wr := []) (w1 := [(a_this, .inr (7, [.ref a_text, .ref a_operands, .ref a_told, .int wordKind_6, .int wordPlace_7, .int wordEnd_8, .int number_9, .int statementPlace, .int 1, .int toDo, .int (b2i isLast), .int faultKind_10, .int faultPlace_11])), (a_text, .inr (12, [.ref a_text_bytes, .int text_size])), (a_operands, .inl (g 0, 3, .inl operands_12)), (a_text_bytes, .inl (g 0, 160, .inl text_bytes))]) hP hD [0, 1, 2, 3] [] rfl rfl (by decide) (by decide) hk_5 hFc hP1 hD1
  have hP : va_P (dC, dI) vwCl [(a_this, .inr (7, [.ref a_text, .ref a_operands, .ref a_told, .int wordKind_6, .int wordPlace_7, .int wordEnd_8, .int number_9, .int statementPlace, .int 1, .int toDo, .int (b2i isLast), .int faultKind_10, .int faultPlace_11])), (a_text, .inr (12, [.ref a_text_bytes, .int text_size])), (a_operands, .inl (g 0, 3, .inl operands_12)), (a_text_bytes, .inl (g 0, 160, .inl text_bytes))] H_5 := hP
  have hD : va_D A [(a_this, .inr (7, [.ref a_text, .ref a_operands, .ref a_told, .int wordKind_6, .int wordPlace_7, .int wordEnd_8, .int number_9, .int statementPlace, .int 1, .int toDo, .int (b2i isLast), .int faultKind_10, .int faultPlace_11])), (a_text, .inr (12, [.ref a_text_bytes, .int text_size])), (a_operands, .inl (g 0, 3, .inl operands_12)), (a_text_bytes, .inl (g 0, 160, .inl text_bytes))] := hD
  obtain ⟨b_5, rfl, hw⟩ := hw_5
  refine lv_if_eq (tgt := 52) hx hb dX5_readCombining_15 (by decide) (fun c_13 => ?_) (fun c_13 => ?_)
  · have hw := hw.1 (b2i_0 c_13)
    refine lv_iconst (v := 0) hx hb dX5_readCombining_52 (by decide) ?_
    have hP9 := hP.sub (ws' := [(a_this, .inr (7, [.ref a_text, .ref a_operands, .ref a_told, .int wordKind_6, .int wordPlace_7, .int wordEnd_8, .int number_9, .int statementPlace, .int 1, .int toDo, .int (b2i isLast), .int faultKind_10, .int faultPlace_11])), (a_text, .inr (12, [.ref a_text_bytes, .int text_size])), (a_operands, .inl (g 0, 3, .inl operands_12)), (a_text_bytes, .inl (g 0, 160, .inl text_bytes))]) [0, 1, 2, 3] rfl
    have hD9 := hD.sub (ws' := [(a_this, .inr (7, [.ref a_text, .ref a_operands, .ref a_told, .int wordKind_6, .int wordPlace_7, .int wordEnd_8, .int number_9, .int statementPlace, .int 1, .int toDo, .int (b2i isLast), .int faultKind_10, .int faultPlace_11])), (a_text, .inr (12, [.ref a_text_bytes, .int text_size])), (a_operands, .inl (g 0, 3, .inl operands_12)), (a_text_bytes, .inl (g 0, 160, .inl text_bytes))]) [0, 1, 2, 3] (by decide) rfl
    exact W.zret (v := 0) hx hb hr rfl (fun t ht hW => ⟨⟨_, (wordKind_6, wordPlace_7, wordEnd_8, number_9, 1, toDo, faultKind_10, faultPlace_11, operands_12, ()), rfl, ⟨false, rfl, hw⟩, ⟨P_at ht hP9, hD9⟩⟩, hS.F ht⟩) hS.2.2 dX5_readCombining_53
  · have hw := hw.2 (b2i_1 c_13)
    refine lv_aload_n hx hb dX5_readCombining_18 rfl (lv_at hl 0 rfl) ?_
    refine lv_iconst (v := 1) hx hb dX5_readCombining_19 (by decide) ?_
    have hPc := hP.sub (ws' := [(a_this, .inr (7, [.ref a_text, .ref a_operands, .ref a_told, .int wordKind_6, .int wordPlace_7, .int wordEnd_8, .int number_9, .int statementPlace, .int 1, .int toDo, .int (b2i isLast), .int faultKind_10, .int faultPlace_11])), (a_text, .inr (12, [.ref a_text_bytes, .int text_size])), (a_operands, .inl (g 0, 3, .inl operands_12)), (a_text_bytes, .inl (g 0, 160, .inl text_bytes))]) [0, 1, 2, 3] rfl
    have hDc := hD.sub (ws' := [(a_this, .inr (7, [.ref a_text, .ref a_operands, .ref a_told, .int wordKind_6, .int wordPlace_7, .int wordEnd_8, .int number_9, .int statementPlace, .int 1, .int toDo, .int (b2i isLast), .int faultKind_10, .int faultPlace_11])), (a_text, .inr (12, [.ref a_text_bytes, .int text_size])), (a_operands, .inl (g 0, 3, .inl operands_12)), (a_text_bytes, .inl (g 0, 160, .inl text_bytes))]) [0, 1, 2, 3] (by decide) rfl
    have hFc := va_free (wc := [(a_this, .inr (7, [.ref a_text, .ref a_operands, .ref a_told, .int wordKind_6, .int wordPlace_7, .int wordEnd_8, .int number_9, .int statementPlace, .int 1, .int toDo, .int (b2i isLast), .int faultKind_10, .int faultPlace_11])), (a_text, .inr (12, [.ref a_text_bytes, .int text_size])), (a_operands, .inl (g 0, 3, .inl operands_12)), (a_text_bytes, .inl (g 0, 160, .inl text_bytes))]) hD hS hA [0, 1, 2, 3] rfl
    refine va_calli (va_runV (As := [.int 1]) (rest := []) ⟨hx, hb, hml, hown, hts⟩ (c_X5_readTape l dC dI g (a_this := a_this) (a_text := a_text) (a_operands := a_operands) (a_told := a_told) (wordKind := wordKind_6) (wordPlace := wordPlace_7) (wordEnd := wordEnd_8) (number := number_9) (statementPlace := statementPlace) (action := 1) (how := toDo) (isLast := isLast) (faultKind := faultKind_10) (faultPlace := faultPlace_11) (a_text_bytes := a_text_bytes) (text_size := text_size) (operands := operands_12) (text_bytes := text_bytes) (slot := 1) (hw := hw) (sz := H_5.size)) (cwV 1 hts (gqV aw_5_132 aw_5_134 aw_0_35 aw_1_10 aw_5_135) rfl rfl rfl (by decide +kernel) ⟨Nat.le_of_ble_eq_true rfl, Nat.le_of_ble_eq_true rfl⟩) ⟨PG_blind, va_recv hK hP (ci := 7) (q0 := 0) rfl rfl, PG_call hK hG hS hPc hDc hFc⟩ rfl rfl hl.1 rfl (lv_room (Nat.le_of_ble_eq_true rfl)) dX5_readCombining_20 ⟨Nat.le_of_ble_eq_true rfl, Nat.le_of_ble_eq_true rfl⟩) hS (fun q _ h => hFc q h) hFc (fun r_14 u_14 t_14 H_14 L_14 ht_14 hvm_14 hw_14 hB_14 hz_14 hk_14 hS => ?_)
    obtain ⟨wordKind_15, wordPlace_16, wordEnd_17, number_18, faultKind_19, faultPlace_20, operands_21, u_14⟩ := u_14
    obtain ⟨hP1, hD1⟩ := hB_14
    rw [ht_14] at hP1
    obtain ⟨hP, hD⟩ := va_join (wr := []) (w1 := [(a_this, .inr (7, [.ref a_text, .ref a_operands, .ref a_told, .int wordKind_15, .int wordPlace_16, .int wordEnd_17, .int number_18, .int statementPlace, .int 1, .int toDo, .int (b2i isLast), .int faultKind_19, .int faultPlace_20])), (a_text, .inr (12, [.ref a_text_bytes, .int text_size])), (a_operands, .inl (g 0, 3, .inl operands_21)), (a_text_bytes, .inl (g 0, 160, .inl text_bytes))]) hP hD [0, 1, 2, 3] [] rfl rfl (by decide) (by decide) hk_14 hFc hP1 hD1
    have hP : va_P (dC, dI) vwCl [(a_this, .inr (7, [.ref a_text, .ref a_operands, .ref a_told, .int wordKind_15, .int wordPlace_16, .int wordEnd_17, .int number_18, .int statementPlace, .int 1, .int toDo, .int (b2i isLast), .int faultKind_19, .int faultPlace_20])), (a_text, .inr (12, [.ref a_text_bytes, .int text_size])), (a_operands, .inl (g 0, 3, .inl operands_21)), (a_text_bytes, .inl (g 0, 160, .inl text_bytes))] H_14 := hP
    have hD : va_D A [(a_this, .inr (7, [.ref a_text, .ref a_operands, .ref a_told, .int wordKind_15, .int wordPlace_16, .int wordEnd_17, .int number_18, .int statementPlace, .int 1, .int toDo, .int (b2i isLast), .int faultKind_19, .int faultPlace_20])), (a_text, .inr (12, [.ref a_text_bytes, .int text_size])), (a_operands, .inl (g 0, 3, .inl operands_21)), (a_text_bytes, .inl (g 0, 160, .inl text_bytes))] := hD
    obtain ⟨b_14, rfl, hw⟩ := hw_14
    refine lv_if_eq (tgt := 52) hx hb dX5_readCombining_23 (by decide) (fun c_22 => ?_) (fun c_22 => ?_)
    · have hw := hw.1 (b2i_0 c_22)
      refine lv_iconst (v := 0) hx hb dX5_readCombining_52 (by decide) ?_
      have hP9 := hP.sub (ws' := [(a_this, .inr (7, [.ref a_text, .ref a_operands, .ref a_told, .int wordKind_15, .int wordPlace_16, .int wordEnd_17, .int number_18, .int statementPlace, .int 1, .int toDo, .int (b2i isLast), .int faultKind_19, .int faultPlace_20])), (a_text, .inr (12, [.ref a_text_bytes, .int text_size])), (a_operands, .inl (g 0, 3, .inl operands_21)), (a_text_bytes, .inl (g 0, 160, .inl text_bytes))]) [0, 1, 2, 3] rfl
      have hD9 := hD.sub (ws' := [(a_this, .inr (7, [.ref a_text, .ref a_operands, .ref a_told, .int wordKind_15, .int wordPlace_16, .int wordEnd_17, .int number_18, .int statementPlace, .int 1, .int toDo, .int (b2i isLast), .int faultKind_19, .int faultPlace_20])), (a_text, .inr (12, [.ref a_text_bytes, .int text_size])), (a_operands, .inl (g 0, 3, .inl operands_21)), (a_text_bytes, .inl (g 0, 160, .inl text_bytes))]) [0, 1, 2, 3] (by decide) rfl
      exact W.zret (v := 0) hx hb hr rfl (fun t ht hW => ⟨⟨_, (wordKind_15, wordPlace_16, wordEnd_17, number_18, 1, toDo, faultKind_19, faultPlace_20, operands_21, ()), rfl, ⟨false, rfl, hw⟩, ⟨P_at ht hP9, hD9⟩⟩, hS.F ht⟩) hS.2.2 dX5_readCombining_53
    · have hw := hw.2 (b2i_1 c_22)
      refine lv_aload_n hx hb dX5_readCombining_26 rfl (lv_at hl 0 rfl) ?_
      have hPc := hP.sub (ws' := [(a_this, .inr (7, [.ref a_text, .ref a_operands, .ref a_told, .int wordKind_15, .int wordPlace_16, .int wordEnd_17, .int number_18, .int statementPlace, .int 1, .int toDo, .int (b2i isLast), .int faultKind_19, .int faultPlace_20])), (a_text, .inr (12, [.ref a_text_bytes, .int text_size])), (a_text_bytes, .inl (g 0, 160, .inl text_bytes))]) [0, 1, 3] rfl
      have hDc := hD.sub (ws' := [(a_this, .inr (7, [.ref a_text, .ref a_operands, .ref a_told, .int wordKind_15, .int wordPlace_16, .int wordEnd_17, .int number_18, .int statementPlace, .int 1, .int toDo, .int (b2i isLast), .int faultKind_19, .int faultPlace_20])), (a_text, .inr (12, [.ref a_text_bytes, .int text_size])), (a_text_bytes, .inl (g 0, 160, .inl text_bytes))]) [0, 1, 3] (by decide) rfl
      have hFc := va_free (wc := [(a_this, .inr (7, [.ref a_text, .ref a_operands, .ref a_told, .int wordKind_15, .int wordPlace_16, .int wordEnd_17, .int number_18, .int statementPlace, .int 1, .int toDo, .int (b2i isLast), .int faultKind_19, .int faultPlace_20])), (a_text, .inr (12, [.ref a_text_bytes, .int text_size])), (a_text_bytes, .inl (g 0, 160, .inl text_bytes))]) hD hS hA [0, 1, 3] rfl
      refine va_calli (va_runV (As := []) (rest := []) ⟨hx, hb, hml, hown, hts⟩ (c_X5_readInto l dC dI g (a_this := a_this) (a_text := a_text) (a_operands := a_operands) (a_told := a_told) (wordKind := wordKind_15) (wordPlace := wordPlace_16) (wordEnd := wordEnd_17) (number := number_18) (statementPlace := statementPlace) (action := 1) (how := toDo) (isLast := isLast) (faultKind := faultKind_19) (faultPlace := faultPlace_20) (a_text_bytes := a_text_bytes) (text_size := text_size) (text_bytes := text_bytes) (hw := hw) (sz := H_14.size)) (cwV 0 hts (gqV aw_5_145 aw_5_147 aw_0_38 aw_1_10 aw_5_148) rfl rfl rfl (by decide +kernel) ⟨Nat.le_of_ble_eq_true rfl, Nat.le_of_ble_eq_true rfl⟩) ⟨PG_blind, va_recv hK hP (ci := 7) (q0 := 0) rfl rfl, PG_call hK hG hS hPc hDc hFc⟩ rfl rfl hl.1 rfl (lv_room (Nat.le_of_ble_eq_true rfl)) dX5_readCombining_27 ⟨Nat.le_of_ble_eq_true rfl, Nat.le_of_ble_eq_true rfl⟩) hS (fun q _ h => hFc q h) hFc (fun r_23 u_23 t_23 H_23 L_23 ht_23 hvm_23 hw_23 hB_23 hz_23 hk_23 hS => ?_)
      obtain ⟨wordKind_24, wordPlace_25, wordEnd_26, faultKind_27, faultPlace_28, u_23⟩ := u_23
      obtain ⟨hP1, hD1⟩ := hB_23
      rw [ht_23] at hP1
      obtain ⟨hP, hD⟩ := va_join (wr := [(a_operands, .inl (g 0, 3, .inl operands_21))]) (w1 := [(a_this, .inr (7, [.ref a_text, .ref a_operands, .ref a_told, .int wordKind_24, .int wordPlace_25, .int wordEnd_26, .int number_18, .int statementPlace, .int 1, .int toDo, .int (b2i isLast), .int faultKind_27, .int faultPlace_28])), (a_text, .inr (12, [.ref a_text_bytes, .int text_size])), (a_text_bytes, .inl (g 0, 160, .inl text_bytes))]) hP hD [0, 1, 3] [2] rfl rfl (by decide) (by decide) hk_23 hFc hP1 hD1
      have hP : va_P (dC, dI) vwCl [(a_operands, .inl (g 0, 3, .inl operands_21)), (a_this, .inr (7, [.ref a_text, .ref a_operands, .ref a_told, .int wordKind_24, .int wordPlace_25, .int wordEnd_26, .int number_18, .int statementPlace, .int 1, .int toDo, .int (b2i isLast), .int faultKind_27, .int faultPlace_28])), (a_text, .inr (12, [.ref a_text_bytes, .int text_size])), (a_text_bytes, .inl (g 0, 160, .inl text_bytes))] H_23 := hP
      have hD : va_D A [(a_operands, .inl (g 0, 3, .inl operands_21)), (a_this, .inr (7, [.ref a_text, .ref a_operands, .ref a_told, .int wordKind_24, .int wordPlace_25, .int wordEnd_26, .int number_18, .int statementPlace, .int 1, .int toDo, .int (b2i isLast), .int faultKind_27, .int faultPlace_28])), (a_text, .inr (12, [.ref a_text_bytes, .int text_size])), (a_text_bytes, .inl (g 0, 160, .inl text_bytes))] := hD
      obtain ⟨b_23, rfl, hw⟩ := hw_23
      refine lv_if_eq (tgt := 52) hx hb dX5_readCombining_30 (by decide) (fun c_29 => ?_) (fun c_29 => ?_)
      · have hw := hw.1 (b2i_0 c_29)
        refine lv_iconst (v := 0) hx hb dX5_readCombining_52 (by decide) ?_
        have hP9 := hP.sub (ws' := [(a_this, .inr (7, [.ref a_text, .ref a_operands, .ref a_told, .int wordKind_24, .int wordPlace_25, .int wordEnd_26, .int number_18, .int statementPlace, .int 1, .int toDo, .int (b2i isLast), .int faultKind_27, .int faultPlace_28])), (a_text, .inr (12, [.ref a_text_bytes, .int text_size])), (a_operands, .inl (g 0, 3, .inl operands_21)), (a_text_bytes, .inl (g 0, 160, .inl text_bytes))]) [1, 2, 0, 3] rfl
        have hD9 := hD.sub (ws' := [(a_this, .inr (7, [.ref a_text, .ref a_operands, .ref a_told, .int wordKind_24, .int wordPlace_25, .int wordEnd_26, .int number_18, .int statementPlace, .int 1, .int toDo, .int (b2i isLast), .int faultKind_27, .int faultPlace_28])), (a_text, .inr (12, [.ref a_text_bytes, .int text_size])), (a_operands, .inl (g 0, 3, .inl operands_21)), (a_text_bytes, .inl (g 0, 160, .inl text_bytes))]) [1, 2, 0, 3] (by decide) rfl
        exact W.zret (v := 0) hx hb hr rfl (fun t ht hW => ⟨⟨_, (wordKind_24, wordPlace_25, wordEnd_26, number_18, 1, toDo, faultKind_27, faultPlace_28, operands_21, ()), rfl, ⟨false, rfl, hw⟩, ⟨P_at ht hP9, hD9⟩⟩, hS.F ht⟩) hS.2.2 dX5_readCombining_53
      · have hw := hw.2 (b2i_1 c_29)
        refine lv_aload_n hx hb dX5_readCombining_33 rfl (lv_at hl 0 rfl) ?_
        refine lv_iconst (v := 2) hx hb dX5_readCombining_34 (by decide) ?_
        have hPc := hP.sub (ws' := [(a_this, .inr (7, [.ref a_text, .ref a_operands, .ref a_told, .int wordKind_24, .int wordPlace_25, .int wordEnd_26, .int number_18, .int statementPlace, .int 1, .int toDo, .int (b2i isLast), .int faultKind_27, .int faultPlace_28])), (a_text, .inr (12, [.ref a_text_bytes, .int text_size])), (a_operands, .inl (g 0, 3, .inl operands_21)), (a_text_bytes, .inl (g 0, 160, .inl text_bytes))]) [1, 2, 0, 3] rfl
        have hDc := hD.sub (ws' := [(a_this, .inr (7, [.ref a_text, .ref a_operands, .ref a_told, .int wordKind_24, .int wordPlace_25, .int wordEnd_26, .int number_18, .int statementPlace, .int 1, .int toDo, .int (b2i isLast), .int faultKind_27, .int faultPlace_28])), (a_text, .inr (12, [.ref a_text_bytes, .int text_size])), (a_operands, .inl (g 0, 3, .inl operands_21)), (a_text_bytes, .inl (g 0, 160, .inl text_bytes))]) [1, 2, 0, 3] (by decide) rfl
        have hFc := va_free (wc := [(a_this, .inr (7, [.ref a_text, .ref a_operands, .ref a_told, .int wordKind_24, .int wordPlace_25, .int wordEnd_26, .int number_18, .int statementPlace, .int 1, .int toDo, .int (b2i isLast), .int faultKind_27, .int faultPlace_28])), (a_text, .inr (12, [.ref a_text_bytes, .int text_size])), (a_operands, .inl (g 0, 3, .inl operands_21)), (a_text_bytes, .inl (g 0, 160, .inl text_bytes))]) hD hS hA [1, 2, 0, 3] rfl
        refine va_calli (va_runV (As := [.int 2]) (rest := []) ⟨hx, hb, hml, hown, hts⟩ (c_X5_readTape l dC dI g (a_this := a_this) (a_text := a_text) (a_operands := a_operands) (a_told := a_told) (wordKind := wordKind_24) (wordPlace := wordPlace_25) (wordEnd := wordEnd_26) (number := number_18) (statementPlace := statementPlace) (action := 1) (how := toDo) (isLast := isLast) (faultKind := faultKind_27) (faultPlace := faultPlace_28) (a_text_bytes := a_text_bytes) (text_size := text_size) (operands := operands_21) (text_bytes := text_bytes) (slot := 2) (hw := hw) (sz := H_23.size)) (cwV 1 hts (gqV aw_5_132 aw_5_134 aw_0_35 aw_1_10 aw_5_135) rfl rfl rfl (by decide +kernel) ⟨Nat.le_of_ble_eq_true rfl, Nat.le_of_ble_eq_true rfl⟩) ⟨PG_blind, va_recv hK hP (ci := 7) (q0 := 1) rfl rfl, PG_call hK hG hS hPc hDc hFc⟩ rfl rfl hl.1 rfl (lv_room (Nat.le_of_ble_eq_true rfl)) dX5_readCombining_35 ⟨Nat.le_of_ble_eq_true rfl, Nat.le_of_ble_eq_true rfl⟩) hS (fun q _ h => hFc q h) hFc (fun r_30 u_30 t_30 H_30 L_30 ht_30 hvm_30 hw_30 hB_30 hz_30 hk_30 hS => ?_)
        obtain ⟨wordKind_31, wordPlace_32, wordEnd_33, number_34, faultKind_35, faultPlace_36, operands_37, u_30⟩ := u_30
        obtain ⟨hP1, hD1⟩ := hB_30
        rw [ht_30] at hP1
        obtain ⟨hP, hD⟩ := va_join (wr := []) (w1 := [(a_this, .inr (7, [.ref a_text, .ref a_operands, .ref a_told, .int wordKind_31, .int wordPlace_32, .int wordEnd_33, .int number_34, .int statementPlace, .int 1, .int toDo, .int (b2i isLast), .int faultKind_35, .int faultPlace_36])), (a_text, .inr (12, [.ref a_text_bytes, .int text_size])), (a_operands, .inl (g 0, 3, .inl operands_37)), (a_text_bytes, .inl (g 0, 160, .inl text_bytes))]) hP hD [1, 2, 0, 3] [] rfl rfl (by decide) (by decide) hk_30 hFc hP1 hD1
        have hP : va_P (dC, dI) vwCl [(a_this, .inr (7, [.ref a_text, .ref a_operands, .ref a_told, .int wordKind_31, .int wordPlace_32, .int wordEnd_33, .int number_34, .int statementPlace, .int 1, .int toDo, .int (b2i isLast), .int faultKind_35, .int faultPlace_36])), (a_text, .inr (12, [.ref a_text_bytes, .int text_size])), (a_operands, .inl (g 0, 3, .inl operands_37)), (a_text_bytes, .inl (g 0, 160, .inl text_bytes))] H_30 := hP
        have hD : va_D A [(a_this, .inr (7, [.ref a_text, .ref a_operands, .ref a_told, .int wordKind_31, .int wordPlace_32, .int wordEnd_33, .int number_34, .int statementPlace, .int 1, .int toDo, .int (b2i isLast), .int faultKind_35, .int faultPlace_36])), (a_text, .inr (12, [.ref a_text_bytes, .int text_size])), (a_operands, .inl (g 0, 3, .inl operands_37)), (a_text_bytes, .inl (g 0, 160, .inl text_bytes))] := hD
        obtain ⟨b_30, rfl, hw⟩ := hw_30
        refine lv_if_eq (tgt := 52) hx hb dX5_readCombining_38 (by decide) (fun c_38 => ?_) (fun c_38 => ?_)
        · have hw := hw.1 (b2i_0 c_38)
          refine lv_iconst (v := 0) hx hb dX5_readCombining_52 (by decide) ?_
          have hP9 := hP.sub (ws' := [(a_this, .inr (7, [.ref a_text, .ref a_operands, .ref a_told, .int wordKind_31, .int wordPlace_32, .int wordEnd_33, .int number_34, .int statementPlace, .int 1, .int toDo, .int (b2i isLast), .int faultKind_35, .int faultPlace_36])), (a_text, .inr (12, [.ref a_text_bytes, .int text_size])), (a_operands, .inl (g 0, 3, .inl operands_37)), (a_text_bytes, .inl (g 0, 160, .inl text_bytes))]) [0, 1, 2, 3] rfl
          have hD9 := hD.sub (ws' := [(a_this, .inr (7, [.ref a_text, .ref a_operands, .ref a_told, .int wordKind_31, .int wordPlace_32, .int wordEnd_33, .int number_34, .int statementPlace, .int 1, .int toDo, .int (b2i isLast), .int faultKind_35, .int faultPlace_36])), (a_text, .inr (12, [.ref a_text_bytes, .int text_size])), (a_operands, .inl (g 0, 3, .inl operands_37)), (a_text_bytes, .inl (g 0, 160, .inl text_bytes))]) [0, 1, 2, 3] (by decide) rfl
          exact W.zret (v := 0) hx hb hr rfl (fun t ht hW => ⟨⟨_, (wordKind_31, wordPlace_32, wordEnd_33, number_34, 1, toDo, faultKind_35, faultPlace_36, operands_37, ()), rfl, ⟨false, rfl, hw⟩, ⟨P_at ht hP9, hD9⟩⟩, hS.F ht⟩) hS.2.2 dX5_readCombining_53
        · have hw := hw.2 (b2i_1 c_38)
          refine lv_aload_n hx hb dX5_readCombining_41 rfl (lv_at hl 0 rfl) ?_
          have hPc := hP.sub (ws' := [(a_this, .inr (7, [.ref a_text, .ref a_operands, .ref a_told, .int wordKind_31, .int wordPlace_32, .int wordEnd_33, .int number_34, .int statementPlace, .int 1, .int toDo, .int (b2i isLast), .int faultKind_35, .int faultPlace_36])), (a_text, .inr (12, [.ref a_text_bytes, .int text_size])), (a_text_bytes, .inl (g 0, 160, .inl text_bytes))]) [0, 1, 3] rfl
          have hDc := hD.sub (ws' := [(a_this, .inr (7, [.ref a_text, .ref a_operands, .ref a_told, .int wordKind_31, .int wordPlace_32, .int wordEnd_33, .int number_34, .int statementPlace, .int 1, .int toDo, .int (b2i isLast), .int faultKind_35, .int faultPlace_36])), (a_text, .inr (12, [.ref a_text_bytes, .int text_size])), (a_text_bytes, .inl (g 0, 160, .inl text_bytes))]) [0, 1, 3] (by decide) rfl
          have hFc := va_free (wc := [(a_this, .inr (7, [.ref a_text, .ref a_operands, .ref a_told, .int wordKind_31, .int wordPlace_32, .int wordEnd_33, .int number_34, .int statementPlace, .int 1, .int toDo, .int (b2i isLast), .int faultKind_35, .int faultPlace_36])), (a_text, .inr (12, [.ref a_text_bytes, .int text_size])), (a_text_bytes, .inl (g 0, 160, .inl text_bytes))]) hD hS hA [0, 1, 3] rfl
          refine va_calli (va_runV (As := []) (rest := []) ⟨hx, hb, hml, hown, hts⟩ (c_X5_readSign l dC dI g (a_this := a_this) (a_text := a_text) (a_operands := a_operands) (a_told := a_told) (wordKind := wordKind_31) (wordPlace := wordPlace_32) (wordEnd := wordEnd_33) (number := number_34) (statementPlace := statementPlace) (action := 1) (how := toDo) (isLast := isLast) (faultKind := faultKind_35) (faultPlace := faultPlace_36) (a_text_bytes := a_text_bytes) (text_size := text_size) (text_bytes := text_bytes) (hw := hw) (sz := H_30.size)) (cwV 0 hts (gqV aw_5_167 aw_5_169 aw_0_41 aw_1_10 aw_5_170) rfl rfl rfl (by decide +kernel) ⟨Nat.le_of_ble_eq_true rfl, Nat.le_of_ble_eq_true rfl⟩) ⟨PG_blind, va_recv hK hP (ci := 7) (q0 := 0) rfl rfl, PG_call hK hG hS hPc hDc hFc⟩ rfl rfl hl.1 rfl (lv_room (Nat.le_of_ble_eq_true rfl)) dX5_readCombining_42 ⟨Nat.le_of_ble_eq_true rfl, Nat.le_of_ble_eq_true rfl⟩) hS (fun q _ h => hFc q h) hFc (fun r_39 u_39 t_39 H_39 L_39 ht_39 hvm_39 hw_39 hB_39 hz_39 hk_39 hS => ?_)
          obtain ⟨wordKind_40, wordPlace_41, wordEnd_42, faultKind_43, faultPlace_44, u_39⟩ := u_39
          obtain ⟨hP1, hD1⟩ := hB_39
          rw [ht_39] at hP1
          obtain ⟨hP, hD⟩ := va_join (wr := [(a_operands, .inl (g 0, 3, .inl operands_37))]) (w1 := [(a_this, .inr (7, [.ref a_text, .ref a_operands, .ref a_told, .int wordKind_40, .int wordPlace_41, .int wordEnd_42, .int number_34, .int statementPlace, .int 1, .int toDo, .int (b2i isLast), .int faultKind_43, .int faultPlace_44])), (a_text, .inr (12, [.ref a_text_bytes, .int text_size])), (a_text_bytes, .inl (g 0, 160, .inl text_bytes))]) hP hD [0, 1, 3] [2] rfl rfl (by decide) (by decide) hk_39 hFc hP1 hD1
          have hP : va_P (dC, dI) vwCl [(a_operands, .inl (g 0, 3, .inl operands_37)), (a_this, .inr (7, [.ref a_text, .ref a_operands, .ref a_told, .int wordKind_40, .int wordPlace_41, .int wordEnd_42, .int number_34, .int statementPlace, .int 1, .int toDo, .int (b2i isLast), .int faultKind_43, .int faultPlace_44])), (a_text, .inr (12, [.ref a_text_bytes, .int text_size])), (a_text_bytes, .inl (g 0, 160, .inl text_bytes))] H_39 := hP
          have hD : va_D A [(a_operands, .inl (g 0, 3, .inl operands_37)), (a_this, .inr (7, [.ref a_text, .ref a_operands, .ref a_told, .int wordKind_40, .int wordPlace_41, .int wordEnd_42, .int number_34, .int statementPlace, .int 1, .int toDo, .int (b2i isLast), .int faultKind_43, .int faultPlace_44])), (a_text, .inr (12, [.ref a_text_bytes, .int text_size])), (a_text_bytes, .inl (g 0, 160, .inl text_bytes))] := hD
          obtain ⟨b_39, rfl, hw⟩ := hw_39
          refine lv_if_eq (tgt := 52) hx hb dX5_readCombining_45 (by decide) (fun c_45 => ?_) (fun c_45 => ?_)
          · have hw := hw.1 (b2i_0 c_45)
            refine lv_iconst (v := 0) hx hb dX5_readCombining_52 (by decide) ?_
            have hP9 := hP.sub (ws' := [(a_this, .inr (7, [.ref a_text, .ref a_operands, .ref a_told, .int wordKind_40, .int wordPlace_41, .int wordEnd_42, .int number_34, .int statementPlace, .int 1, .int toDo, .int (b2i isLast), .int faultKind_43, .int faultPlace_44])), (a_text, .inr (12, [.ref a_text_bytes, .int text_size])), (a_operands, .inl (g 0, 3, .inl operands_37)), (a_text_bytes, .inl (g 0, 160, .inl text_bytes))]) [1, 2, 0, 3] rfl
            have hD9 := hD.sub (ws' := [(a_this, .inr (7, [.ref a_text, .ref a_operands, .ref a_told, .int wordKind_40, .int wordPlace_41, .int wordEnd_42, .int number_34, .int statementPlace, .int 1, .int toDo, .int (b2i isLast), .int faultKind_43, .int faultPlace_44])), (a_text, .inr (12, [.ref a_text_bytes, .int text_size])), (a_operands, .inl (g 0, 3, .inl operands_37)), (a_text_bytes, .inl (g 0, 160, .inl text_bytes))]) [1, 2, 0, 3] (by decide) rfl
            exact W.zret (v := 0) hx hb hr rfl (fun t ht hW => ⟨⟨_, (wordKind_40, wordPlace_41, wordEnd_42, number_34, 1, toDo, faultKind_43, faultPlace_44, operands_37, ()), rfl, ⟨false, rfl, hw⟩, ⟨P_at ht hP9, hD9⟩⟩, hS.F ht⟩) hS.2.2 dX5_readCombining_53
          · have hw := hw.2 (b2i_1 c_45)
            refine lv_iconst (v := 1) hx hb dX5_readCombining_48 (by decide) ?_
            refine lv_goto (tgt := 53) hx hb dX5_readCombining_49 (by decide) ?_
            have hP9 := hP.sub (ws' := [(a_this, .inr (7, [.ref a_text, .ref a_operands, .ref a_told, .int wordKind_40, .int wordPlace_41, .int wordEnd_42, .int number_34, .int statementPlace, .int 1, .int toDo, .int (b2i isLast), .int faultKind_43, .int faultPlace_44])), (a_text, .inr (12, [.ref a_text_bytes, .int text_size])), (a_operands, .inl (g 0, 3, .inl operands_37)), (a_text_bytes, .inl (g 0, 160, .inl text_bytes))]) [1, 2, 0, 3] rfl
            have hD9 := hD.sub (ws' := [(a_this, .inr (7, [.ref a_text, .ref a_operands, .ref a_told, .int wordKind_40, .int wordPlace_41, .int wordEnd_42, .int number_34, .int statementPlace, .int 1, .int toDo, .int (b2i isLast), .int faultKind_43, .int faultPlace_44])), (a_text, .inr (12, [.ref a_text_bytes, .int text_size])), (a_operands, .inl (g 0, 3, .inl operands_37)), (a_text_bytes, .inl (g 0, 160, .inl text_bytes))]) [1, 2, 0, 3] (by decide) rfl
            exact W.zret (v := 1) hx hb hr rfl (fun t ht hW => ⟨⟨_, (wordKind_40, wordPlace_41, wordEnd_42, number_34, 1, toDo, faultKind_43, faultPlace_44, operands_37, ()), rfl, ⟨true, rfl, hw⟩, ⟨P_at ht hP9, hD9⟩⟩, hS.F ht⟩) hS.2.2 dX5_readCombining_53
theorem dX5_readTransfer_0 : decode cX5_readTransfer 0 = .ok (.aload_n 0, 1) := by decide +kernel
theorem dX5_readTransfer_1 : decode cX5_readTransfer 1 = .ok (.iload_n 1, 1) := by decide +kernel
theorem dX5_readTransfer_2 : decode cX5_readTransfer 2 = .ok (.putfield 45, 3) := by decide +kernel
theorem dX5_readTransfer_5 : decode cX5_readTransfer 5 = .ok (.aload_n 0, 1) := by decide +kernel
theorem dX5_readTransfer_6 : decode cX5_readTransfer 6 = .ok (.iconst 0, 1) := by decide +kernel
theorem dX5_readTransfer_7 : decode cX5_readTransfer 7 = .ok (.invokevirtual 110, 3) := by decide +kernel
theorem dX5_readTransfer_10 : decode cX5_readTransfer 10 = .ok (.ifCond .eq 22, 3) := by decide +kernel
theorem dX5_readTransfer_32 : decode cX5_readTransfer 32 = .ok (.iconst 0, 1) := by decide +kernel
theorem dX5_readTransfer_33 : decode cX5_readTransfer 33 = .ok (.ireturn, 1) := by decide +kernel
theorem dX5_readTransfer_13 : decode cX5_readTransfer 13 = .ok (.aload_n 0, 1) := by decide +kernel
theorem dX5_readTransfer_14 : decode cX5_readTransfer 14 = .ok (.invokevirtual 113, 3) := by decide +kernel
theorem dX5_readTransfer_17 : decode cX5_readTransfer 17 = .ok (.ifCond .eq 15, 3) := by decide +kernel
theorem dX5_readTransfer_20 : decode cX5_readTransfer 20 = .ok (.aload_n 0, 1) := by decide +kernel
theorem dX5_readTransfer_21 : decode cX5_readTransfer 21 = .ok (.iconst 2, 1) := by decide +kernel
theorem dX5_readTransfer_22 : decode cX5_readTransfer 22 = .ok (.invokevirtual 110, 3) := by decide +kernel
theorem dX5_readTransfer_25 : decode cX5_readTransfer 25 = .ok (.ifCond .eq 7, 3) := by decide +kernel
theorem dX5_readTransfer_28 : decode cX5_readTransfer 28 = .ok (.iconst 1, 1) := by decide +kernel
theorem dX5_readTransfer_29 : decode cX5_readTransfer 29 = .ok (.goto 4, 3) := by decide +kernel
abbrev Wa_X5_readTransfer (g : Nat → ClassId) (a_this : Nat) (a_text : Nat) (a_operands : Nat) (a_told : Nat) (wordKind : Int32) (wordPlace : Int32) (wordEnd : Int32) (number : Int32) (statementPlace : Int32) (action : Int32) (how : Int32) (isLast : Bool) (faultKind : Int32) (faultPlace : Int32) (a_text_bytes : Nat) (text_size : Int32) (operands : Nat → Int32) (text_bytes : Nat → Int32) : va_W := [(a_this, .inr (7, [.ref a_text, .ref a_operands, .ref a_told, .int wordKind, .int wordPlace, .int wordEnd, .int number, .int statementPlace, .int action, .int how, .int (b2i isLast), .int faultKind, .int faultPlace])), (a_text, .inr (12, [.ref a_text_bytes, .int text_size])), (a_operands, .inl (g 0, 3, .inl operands)), (a_text_bytes, .inl (g 0, 160, .inl text_bytes))]
abbrev Wb_X5_readTransfer (g : Nat → ClassId) (a_this : Nat) (a_text : Nat) (a_operands : Nat) (a_told : Nat) (statementPlace : Int32) (how : Int32) (isLast : Bool) (a_text_bytes : Nat) (text_size : Int32) (text_bytes : Nat → Int32) (u : Int32 × Int32 × Int32 × Int32 × Int32 × Int32 × Int32 × (Nat → Int32) × Unit) : va_W := [(a_this, .inr (7, [.ref a_text, .ref a_operands, .ref a_told, .int u.1, .int u.2.1, .int u.2.2.1, .int u.2.2.2.1, .int statementPlace, .int u.2.2.2.2.1, .int how, .int (b2i isLast), .int u.2.2.2.2.2.1, .int u.2.2.2.2.2.2.1])), (a_text, .inr (12, [.ref a_text_bytes, .int text_size])), (a_operands, .inl (g 0, 3, .inl u.2.2.2.2.2.2.2.1)), (a_text_bytes, .inl (g 0, 160, .inl text_bytes))]
set_option maxHeartbeats 8000000 in
set_option maxRecDepth 100000 in
theorem c_X5_readTransfer (l : Launch) (dC : Nat → ClassId) (dI : Nat → Nat → Nat) (g : Nat → ClassId) (a_this : Nat) (a_text : Nat) (a_operands : Nat) (a_told : Nat) (wordKind : Int32) (wordPlace : Int32) (wordEnd : Int32) (number : Int32) (statementPlace : Int32) (action : Int32) (how : Int32) (isLast : Bool) (faultKind : Int32) (faultPlace : Int32) (a_text_bytes : Nat) (text_size : Int32) (operands : Nat → Int32) (text_bytes : Nat → Int32) (what : Int32) (Q : Bool → Int32 → Int32 → Int32 → Int32 → Int32 → Int32 → Int32 → (Nat → Int32) → Prop) (hw : wp_X5_readTransfer wordEnd number faultKind faultPlace text_size operands text_bytes what Q) (sz : Nat) : Met l yX5_readTransfer wqX5_readTransfer ({ frames := 12, cells := 0, slots := 0, locals := 162 }) (va_Pc [.ref a_this, .int what] (PG (dC, dI) g (Wa_X5_readTransfer g a_this a_text a_operands a_told wordKind wordPlace wordEnd number statementPlace action how isLast faultKind faultPlace a_text_bytes text_size operands text_bytes) sz)) (va_Qi (fun (r : Int32) (u : Int32 × Int32 × Int32 × Int32 × Int32 × Int32 × Int32 × (Nat → Int32) × Unit) => ∃ b : Bool, r = b2i b ∧ Q b u.1 u.2.1 u.2.2.1 u.2.2.2.1 u.2.2.2.2.1 u.2.2.2.2.2.1 u.2.2.2.2.2.2.1 u.2.2.2.2.2.2.2.1) (fun (u : Int32 × Int32 × Int32 × Int32 × Int32 × Int32 × Int32 × (Nat → Int32) × Unit) t9 => va_P (dC, dI) vwCl (Wb_X5_readTransfer g a_this a_text a_operands a_told statementPlace how isLast a_text_bytes text_size text_bytes u) t9.heap ∧ va_D (va_A (Wa_X5_readTransfer g a_this a_text a_operands a_told wordKind wordPlace wordEnd number statementPlace action how isLast faultKind faultPlace a_text_bytes text_size operands text_bytes) sz) (Wb_X5_readTransfer g a_this a_text a_operands a_told statementPlace how isLast a_text_bytes text_size text_bytes u)) (va_A (Wa_X5_readTransfer g a_this a_text a_operands a_told wordKind wordPlace wordEnd number statementPlace action how isLast faultKind faultPlace a_text_bytes text_size operands text_bytes) sz)) 0 0 (va_A (Wa_X5_readTransfer g a_this a_text a_operands a_told wordKind wordPlace wordEnd number statementPlace action how isLast faultKind faultPlace a_text_bytes text_size operands text_bytes) sz) := by
  refine Met.ofW (cc := cX5_readTransfer) (maxL := 2) (ret := (some .boolean)) (by decide) rfl ?_
  intro p e s m args below meth c s₁ B hml hv
  obtain ⟨rfl, hsz, hP, hK, hD0, hG⟩ := hv
  have hx := B.exec
  have hb := B.bytes
  have hr := B.returns
  have hts := atoms_spec (ws := wqX5_readTransfer) B.pre
  have hown : s.vm.findClass RX5 = some m.cls := findClass_of_methodNamed B.named
  have hlocks := B.notSynchronized
  subst hsz
  have hD := hD0.self (sz := s.heap.size)
  generalize hAe : va_A (Wa_X5_readTransfer g a_this a_text a_operands a_told wordKind wordPlace wordEnd number statementPlace action how isLast faultKind faultPlace a_text_bytes text_size operands text_bytes) s.heap.size = A at hD hG ⊢
  have hA : ∀ q : Nat, s.heap.size ≤ q → A q := fun q h => by rw [← hAe]; exact Or.inr h
  have hS : va_S A s.heap s.heap [] := va_S.rf
  have hl := lv_entry ([.ref a_this, .int what]) (n := 2) (Nat.le_of_ble_eq_true rfl)
  rw [lg_entry_eq]
  generalize (lg_sl ([.ref a_this, .int what]) ++ List.replicate (2 - (lg_sl ([.ref a_this, .int what])).length) Slot.unset).toArray = ls at hl ⊢
  have hl : lv_has ls 2 [(0, .ref a_this), (1, .int what)] := hl
  unfold wp_X5_readTransfer at hw
  have hf45 := hts (Cond.fieldLink RX5 45 "RunmergeOffice$Reader" "action" "I") (aw_l aw_2_89)
  have hiX5 : ∀ w ∈ u_ws RX5 TX5 13, w ∈ wqX5_readTransfer := fun w h => aw_l (aw_wsX50 w h)
  refine lv_aload_n hx hb dX5_readTransfer_0 rfl (lv_at hl 0 rfl) ?_
  refine lv_iload_n hx hb dX5_readTransfer_1 rfl (lv_at hl 1 rfl) ?_
  refine va_put (D := (dC, dI)) (ci := 7) (v := .int what) (ty := .int) (C := RX5) (T := TX5) (N := 13) hx hb hts hiX5 tyX5 tyX5_ok nmX5 hown hK hP hD hS 0 rfl rfl 8 (by decide) hf45 (fun _ h9 => h9) rfl (by decide +kernel) rfl rfl (Nat.le_of_ble_eq_true rfl) dX5_readTransfer_2 (fun H_1 L_2 hP hD hS => ?_)
  have hP : va_P (dC, dI) vwCl [(a_this, .inr (7, [.ref a_text, .ref a_operands, .ref a_told, .int wordKind, .int wordPlace, .int wordEnd, .int number, .int statementPlace, .int what, .int how, .int (b2i isLast), .int faultKind, .int faultPlace])), (a_text, .inr (12, [.ref a_text_bytes, .int text_size])), (a_operands, .inl (g 0, 3, .inl operands)), (a_text_bytes, .inl (g 0, 160, .inl text_bytes))] H_1 := hP
  have hD : va_D A [(a_this, .inr (7, [.ref a_text, .ref a_operands, .ref a_told, .int wordKind, .int wordPlace, .int wordEnd, .int number, .int statementPlace, .int what, .int how, .int (b2i isLast), .int faultKind, .int faultPlace])), (a_text, .inr (12, [.ref a_text_bytes, .int text_size])), (a_operands, .inl (g 0, 3, .inl operands)), (a_text_bytes, .inl (g 0, 160, .inl text_bytes))] := hD
  refine lv_aload_n hx hb dX5_readTransfer_5 rfl (lv_at hl 0 rfl) ?_
  refine lv_iconst (v := 0) hx hb dX5_readTransfer_6 (by decide) ?_
  have hPc := hP.sub (ws' := [(a_this, .inr (7, [.ref a_text, .ref a_operands, .ref a_told, .int wordKind, .int wordPlace, .int wordEnd, .int number, .int statementPlace, .int what, .int how, .int (b2i isLast), .int faultKind, .int faultPlace])), (a_text, .inr (12, [.ref a_text_bytes, .int text_size])), (a_operands, .inl (g 0, 3, .inl operands)), (a_text_bytes, .inl (g 0, 160, .inl text_bytes))]) [0, 1, 2, 3] rfl
  have hDc := hD.sub (ws' := [(a_this, .inr (7, [.ref a_text, .ref a_operands, .ref a_told, .int wordKind, .int wordPlace, .int wordEnd, .int number, .int statementPlace, .int what, .int how, .int (b2i isLast), .int faultKind, .int faultPlace])), (a_text, .inr (12, [.ref a_text_bytes, .int text_size])), (a_operands, .inl (g 0, 3, .inl operands)), (a_text_bytes, .inl (g 0, 160, .inl text_bytes))]) [0, 1, 2, 3] (by decide) rfl
  have hFc := va_free (wc := [(a_this, .inr (7, [.ref a_text, .ref a_operands, .ref a_told, .int wordKind, .int wordPlace, .int wordEnd, .int number, .int statementPlace, .int what, .int how, .int (b2i isLast), .int faultKind, .int faultPlace])), (a_text, .inr (12, [.ref a_text_bytes, .int text_size])), (a_operands, .inl (g 0, 3, .inl operands)), (a_text_bytes, .inl (g 0, 160, .inl text_bytes))]) hD hS hA [0, 1, 2, 3] rfl
  refine va_calli (va_runV (As := [.int 0]) (rest := []) ⟨hx, hb, hml, hown, hts⟩ (c_X5_readTape l dC dI g (a_this := a_this) (a_text := a_text) (a_operands := a_operands) (a_told := a_told) (wordKind := wordKind) (wordPlace := wordPlace) (wordEnd := wordEnd) (number := number) (statementPlace := statementPlace) (action := what) (how := how) (isLast := isLast) (faultKind := faultKind) (faultPlace := faultPlace) (a_text_bytes := a_text_bytes) (text_size := text_size) (operands := operands) (text_bytes := text_bytes) (slot := 0) (hw := hw) (sz := H_1.size)) (cwV 1 hts (gqV aw_5_132 aw_5_134 aw_0_35 aw_1_10 aw_5_135) rfl rfl rfl (by decide +kernel) ⟨Nat.le_of_ble_eq_true rfl, Nat.le_of_ble_eq_true rfl⟩) ⟨PG_blind, va_recv hK hP (ci := 7) (q0 := 0) rfl rfl, PG_call hK hG hS hPc hDc hFc⟩ rfl rfl hl.1 rfl (lv_room (Nat.le_of_ble_eq_true rfl)) dX5_readTransfer_7 ⟨Nat.le_of_ble_eq_true rfl, Nat.le_of_ble_eq_true rfl⟩) hS (fun q _ h => hFc q h) hFc (fun r_3 u_3 t_3 H_3 L_3 ht_3 hvm_3 hw_3 hB_3 hz_3 hk_3 hS => ?_)
  obtain ⟨wordKind_4, wordPlace_5, wordEnd_6, number_7, faultKind_8, faultPlace_9, operands_10, u_3⟩ := u_3
  obtain ⟨hP1, hD1⟩ := hB_3
  rw [ht_3] at hP1
  obtain ⟨hP, hD⟩ := va_join (wr := []) (w1 := [(a_this, .inr (7, [.ref a_text, .ref a_operands, .ref a_told, .int wordKind_4, .int wordPlace_5, .int wordEnd_6, .int number_7, .int statementPlace, .int what, .int how, .int (b2i isLast), .int faultKind_8, .int faultPlace_9])), (a_text, .inr (12, [.ref a_text_bytes, .int text_size])), (a_operands, .inl (g 0, 3, .inl operands_10)), (a_text_bytes, .inl (g 0, 160, .inl text_bytes))]) hP hD [0, 1, 2, 3] [] rfl rfl (by decide) (by decide) hk_3 hFc hP1 hD1
  have hP : va_P (dC, dI) vwCl [(a_this, .inr (7, [.ref a_text, .ref a_operands, .ref a_told, .int wordKind_4, .int wordPlace_5, .int wordEnd_6, .int number_7, .int statementPlace, .int what, .int how, .int (b2i isLast), .int faultKind_8, .int faultPlace_9])), (a_text, .inr (12, [.ref a_text_bytes, .int text_size])), (a_operands, .inl (g 0, 3, .inl operands_10)), (a_text_bytes, .inl (g 0, 160, .inl text_bytes))] H_3 := hP
  have hD : va_D A [(a_this, .inr (7, [.ref a_text, .ref a_operands, .ref a_told, .int wordKind_4, .int wordPlace_5, .int wordEnd_6, .int number_7, .int statementPlace, .int what, .int how, .int (b2i isLast), .int faultKind_8, .int faultPlace_9])), (a_text, .inr (12, [.ref a_text_bytes, .int text_size])), (a_operands, .inl (g 0, 3, .inl operands_10)), (a_text_bytes, .inl (g 0, 160, .inl text_bytes))] := hD
  obtain ⟨b_3, rfl, hw⟩ := hw_3
  refine lv_if_eq (tgt := 32) hx hb dX5_readTransfer_10 (by decide) (fun c_11 => ?_) (fun c_11 => ?_)
  · have hw := hw.1 (b2i_0 c_11)
    refine lv_iconst (v := 0) hx hb dX5_readTransfer_32 (by decide) ?_
    have hP9 := hP.sub (ws' := [(a_this, .inr (7, [.ref a_text, .ref a_operands, .ref a_told, .int wordKind_4, .int wordPlace_5, .int wordEnd_6, .int number_7, .int statementPlace, .int what, .int how, .int (b2i isLast), .int faultKind_8, .int faultPlace_9])), (a_text, .inr (12, [.ref a_text_bytes, .int text_size])), (a_operands, .inl (g 0, 3, .inl operands_10)), (a_text_bytes, .inl (g 0, 160, .inl text_bytes))]) [0, 1, 2, 3] rfl
    have hD9 := hD.sub (ws' := [(a_this, .inr (7, [.ref a_text, .ref a_operands, .ref a_told, .int wordKind_4, .int wordPlace_5, .int wordEnd_6, .int number_7, .int statementPlace, .int what, .int how, .int (b2i isLast), .int faultKind_8, .int faultPlace_9])), (a_text, .inr (12, [.ref a_text_bytes, .int text_size])), (a_operands, .inl (g 0, 3, .inl operands_10)), (a_text_bytes, .inl (g 0, 160, .inl text_bytes))]) [0, 1, 2, 3] (by decide) rfl
    exact W.zret (v := 0) hx hb hr rfl (fun t ht hW => ⟨⟨_, (wordKind_4, wordPlace_5, wordEnd_6, number_7, what, faultKind_8, faultPlace_9, operands_10, ()), rfl, ⟨false, rfl, hw⟩, ⟨P_at ht hP9, hD9⟩⟩, hS.F ht⟩) hS.2.2 dX5_readTransfer_33
  · have hw := hw.2 (b2i_1 c_11)
    refine lv_aload_n hx hb dX5_readTransfer_13 rfl (lv_at hl 0 rfl) ?_
    have hPc := hP.sub (ws' := [(a_this, .inr (7, [.ref a_text, .ref a_operands, .ref a_told, .int wordKind_4, .int wordPlace_5, .int wordEnd_6, .int number_7, .int statementPlace, .int what, .int how, .int (b2i isLast), .int faultKind_8, .int faultPlace_9])), (a_text, .inr (12, [.ref a_text_bytes, .int text_size])), (a_text_bytes, .inl (g 0, 160, .inl text_bytes))]) [0, 1, 3] rfl
    have hDc := hD.sub (ws' := [(a_this, .inr (7, [.ref a_text, .ref a_operands, .ref a_told, .int wordKind_4, .int wordPlace_5, .int wordEnd_6, .int number_7, .int statementPlace, .int what, .int how, .int (b2i isLast), .int faultKind_8, .int faultPlace_9])), (a_text, .inr (12, [.ref a_text_bytes, .int text_size])), (a_text_bytes, .inl (g 0, 160, .inl text_bytes))]) [0, 1, 3] (by decide) rfl
    have hFc := va_free (wc := [(a_this, .inr (7, [.ref a_text, .ref a_operands, .ref a_told, .int wordKind_4, .int wordPlace_5, .int wordEnd_6, .int number_7, .int statementPlace, .int what, .int how, .int (b2i isLast), .int faultKind_8, .int faultPlace_9])), (a_text, .inr (12, [.ref a_text_bytes, .int text_size])), (a_text_bytes, .inl (g 0, 160, .inl text_bytes))]) hD hS hA [0, 1, 3] rfl
    refine va_calli (va_runV (As := []) (rest := []) ⟨hx, hb, hml, hown, hts⟩ (c_X5_readInto l dC dI g (a_this := a_this) (a_text := a_text) (a_operands := a_operands) (a_told := a_told) (wordKind := wordKind_4) (wordPlace := wordPlace_5) (wordEnd := wordEnd_6) (number := number_7) (statementPlace := statementPlace) (action := what) (how := how) (isLast := isLast) (faultKind := faultKind_8) (faultPlace := faultPlace_9) (a_text_bytes := a_text_bytes) (text_size := text_size) (text_bytes := text_bytes) (hw := hw) (sz := H_3.size)) (cwV 0 hts (gqV aw_5_145 aw_5_147 aw_0_38 aw_1_10 aw_5_148) rfl rfl rfl (by decide +kernel) ⟨Nat.le_of_ble_eq_true rfl, Nat.le_of_ble_eq_true rfl⟩) ⟨PG_blind, va_recv hK hP (ci := 7) (q0 := 0) rfl rfl, PG_call hK hG hS hPc hDc hFc⟩ rfl rfl hl.1 rfl (lv_room (Nat.le_of_ble_eq_true rfl)) dX5_readTransfer_14 ⟨Nat.le_of_ble_eq_true rfl, Nat.le_of_ble_eq_true rfl⟩) hS (fun q _ h => hFc q h) hFc (fun r_12 u_12 t_12 H_12 L_12 ht_12 hvm_12 hw_12 hB_12 hz_12 hk_12 hS => ?_)
    obtain ⟨wordKind_13, wordPlace_14, wordEnd_15, faultKind_16, faultPlace_17, u_12⟩ := u_12
    obtain ⟨hP1, hD1⟩ := hB_12
    rw [ht_12] at hP1
    obtain ⟨hP, hD⟩ := va_join (wr := [(a_operands, .inl (g 0, 3, .inl operands_10))]) (w1 := [(a_this, .inr (7, [.ref a_text, .ref a_operands, .ref a_told, .int wordKind_13, .int wordPlace_14, .int wordEnd_15, .int number_7, .int statementPlace, .int what, .int how, .int (b2i isLast), .int faultKind_16, .int faultPlace_17])), (a_text, .inr (12, [.ref a_text_bytes, .int text_size])), (a_text_bytes, .inl (g 0, 160, .inl text_bytes))]) hP hD [0, 1, 3] [2] rfl rfl (by decide) (by decide) hk_12 hFc hP1 hD1
    have hP : va_P (dC, dI) vwCl [(a_operands, .inl (g 0, 3, .inl operands_10)), (a_this, .inr (7, [.ref a_text, .ref a_operands, .ref a_told, .int wordKind_13, .int wordPlace_14, .int wordEnd_15, .int number_7, .int statementPlace, .int what, .int how, .int (b2i isLast), .int faultKind_16, .int faultPlace_17])), (a_text, .inr (12, [.ref a_text_bytes, .int text_size])), (a_text_bytes, .inl (g 0, 160, .inl text_bytes))] H_12 := hP
    have hD : va_D A [(a_operands, .inl (g 0, 3, .inl operands_10)), (a_this, .inr (7, [.ref a_text, .ref a_operands, .ref a_told, .int wordKind_13, .int wordPlace_14, .int wordEnd_15, .int number_7, .int statementPlace, .int what, .int how, .int (b2i isLast), .int faultKind_16, .int faultPlace_17])), (a_text, .inr (12, [.ref a_text_bytes, .int text_size])), (a_text_bytes, .inl (g 0, 160, .inl text_bytes))] := hD
    obtain ⟨b_12, rfl, hw⟩ := hw_12
    refine lv_if_eq (tgt := 32) hx hb dX5_readTransfer_17 (by decide) (fun c_18 => ?_) (fun c_18 => ?_)
    · have hw := hw.1 (b2i_0 c_18)
      refine lv_iconst (v := 0) hx hb dX5_readTransfer_32 (by decide) ?_
      have hP9 := hP.sub (ws' := [(a_this, .inr (7, [.ref a_text, .ref a_operands, .ref a_told, .int wordKind_13, .int wordPlace_14, .int wordEnd_15, .int number_7, .int statementPlace, .int what, .int how, .int (b2i isLast), .int faultKind_16, .int faultPlace_17])), (a_text, .inr (12, [.ref a_text_bytes, .int text_size])), (a_operands, .inl (g 0, 3, .inl operands_10)), (a_text_bytes, .inl (g 0, 160, .inl text_bytes))]) [1, 2, 0, 3] rfl
      have hD9 := hD.sub (ws' := [(a_this, .inr (7, [.ref a_text, .ref a_operands, .ref a_told, .int wordKind_13, .int wordPlace_14, .int wordEnd_15, .int number_7, .int statementPlace, .int what, .int how, .int (b2i isLast), .int faultKind_16, .int faultPlace_17])), (a_text, .inr (12, [.ref a_text_bytes, .int text_size])), (a_operands, .inl (g 0, 3, .inl operands_10)), (a_text_bytes, .inl (g 0, 160, .inl text_bytes))]) [1, 2, 0, 3] (by decide) rfl
      exact W.zret (v := 0) hx hb hr rfl (fun t ht hW => ⟨⟨_, (wordKind_13, wordPlace_14, wordEnd_15, number_7, what, faultKind_16, faultPlace_17, operands_10, ()), rfl, ⟨false, rfl, hw⟩, ⟨P_at ht hP9, hD9⟩⟩, hS.F ht⟩) hS.2.2 dX5_readTransfer_33
    · have hw := hw.2 (b2i_1 c_18)
      refine lv_aload_n hx hb dX5_readTransfer_20 rfl (lv_at hl 0 rfl) ?_
      refine lv_iconst (v := 2) hx hb dX5_readTransfer_21 (by decide) ?_
      have hPc := hP.sub (ws' := [(a_this, .inr (7, [.ref a_text, .ref a_operands, .ref a_told, .int wordKind_13, .int wordPlace_14, .int wordEnd_15, .int number_7, .int statementPlace, .int what, .int how, .int (b2i isLast), .int faultKind_16, .int faultPlace_17])), (a_text, .inr (12, [.ref a_text_bytes, .int text_size])), (a_operands, .inl (g 0, 3, .inl operands_10)), (a_text_bytes, .inl (g 0, 160, .inl text_bytes))]) [1, 2, 0, 3] rfl
      have hDc := hD.sub (ws' := [(a_this, .inr (7, [.ref a_text, .ref a_operands, .ref a_told, .int wordKind_13, .int wordPlace_14, .int wordEnd_15, .int number_7, .int statementPlace, .int what, .int how, .int (b2i isLast), .int faultKind_16, .int faultPlace_17])), (a_text, .inr (12, [.ref a_text_bytes, .int text_size])), (a_operands, .inl (g 0, 3, .inl operands_10)), (a_text_bytes, .inl (g 0, 160, .inl text_bytes))]) [1, 2, 0, 3] (by decide) rfl
      have hFc := va_free (wc := [(a_this, .inr (7, [.ref a_text, .ref a_operands, .ref a_told, .int wordKind_13, .int wordPlace_14, .int wordEnd_15, .int number_7, .int statementPlace, .int what, .int how, .int (b2i isLast), .int faultKind_16, .int faultPlace_17])), (a_text, .inr (12, [.ref a_text_bytes, .int text_size])), (a_operands, .inl (g 0, 3, .inl operands_10)), (a_text_bytes, .inl (g 0, 160, .inl text_bytes))]) hD hS hA [1, 2, 0, 3] rfl
      refine va_calli (va_runV (As := [.int 2]) (rest := []) ⟨hx, hb, hml, hown, hts⟩ (c_X5_readTape l dC dI g (a_this := a_this) (a_text := a_text) (a_operands := a_operands) (a_told := a_told) (wordKind := wordKind_13) (wordPlace := wordPlace_14) (wordEnd := wordEnd_15) (number := number_7) (statementPlace := statementPlace) (action := what) (how := how) (isLast := isLast) (faultKind := faultKind_16) (faultPlace := faultPlace_17) (a_text_bytes := a_text_bytes) (text_size := text_size) (operands := operands_10) (text_bytes := text_bytes) (slot := 2) (hw := hw) (sz := H_12.size)) (cwV 1 hts (gqV aw_5_132 aw_5_134 aw_0_35 aw_1_10 aw_5_135) rfl rfl rfl (by decide +kernel) ⟨Nat.le_of_ble_eq_true rfl, Nat.le_of_ble_eq_true rfl⟩) ⟨PG_blind, va_recv hK hP (ci := 7) (q0 := 1) rfl rfl, PG_call hK hG hS hPc hDc hFc⟩ rfl rfl hl.1 rfl (lv_room (Nat.le_of_ble_eq_true rfl)) dX5_readTransfer_22 ⟨Nat.le_of_ble_eq_true rfl, Nat.le_of_ble_eq_true rfl⟩) hS (fun q _ h => hFc q h) hFc (fun r_19 u_19 t_19 H_19 L_19 ht_19 hvm_19 hw_19 hB_19 hz_19 hk_19 hS => ?_)
      obtain ⟨wordKind_20, wordPlace_21, wordEnd_22, number_23, faultKind_24, faultPlace_25, operands_26, u_19⟩ := u_19
      obtain ⟨hP1, hD1⟩ := hB_19
      rw [ht_19] at hP1
      obtain ⟨hP, hD⟩ := va_join (wr := []) (w1 := [(a_this, .inr (7, [.ref a_text, .ref a_operands, .ref a_told, .int wordKind_20, .int wordPlace_21, .int wordEnd_22, .int number_23, .int statementPlace, .int what, .int how, .int (b2i isLast), .int faultKind_24, .int faultPlace_25])), (a_text, .inr (12, [.ref a_text_bytes, .int text_size])), (a_operands, .inl (g 0, 3, .inl operands_26)), (a_text_bytes, .inl (g 0, 160, .inl text_bytes))]) hP hD [1, 2, 0, 3] [] rfl rfl (by decide) (by decide) hk_19 hFc hP1 hD1
      have hP : va_P (dC, dI) vwCl [(a_this, .inr (7, [.ref a_text, .ref a_operands, .ref a_told, .int wordKind_20, .int wordPlace_21, .int wordEnd_22, .int number_23, .int statementPlace, .int what, .int how, .int (b2i isLast), .int faultKind_24, .int faultPlace_25])), (a_text, .inr (12, [.ref a_text_bytes, .int text_size])), (a_operands, .inl (g 0, 3, .inl operands_26)), (a_text_bytes, .inl (g 0, 160, .inl text_bytes))] H_19 := hP
      have hD : va_D A [(a_this, .inr (7, [.ref a_text, .ref a_operands, .ref a_told, .int wordKind_20, .int wordPlace_21, .int wordEnd_22, .int number_23, .int statementPlace, .int what, .int how, .int (b2i isLast), .int faultKind_24, .int faultPlace_25])), (a_text, .inr (12, [.ref a_text_bytes, .int text_size])), (a_operands, .inl (g 0, 3, .inl operands_26)), (a_text_bytes, .inl (g 0, 160, .inl text_bytes))] := hD
      obtain ⟨b_19, rfl, hw⟩ := hw_19
      refine lv_if_eq (tgt := 32) hx hb dX5_readTransfer_25 (by decide) (fun c_27 => ?_) (fun c_27 => ?_)
      · have hw := hw.1 (b2i_0 c_27)
        refine lv_iconst (v := 0) hx hb dX5_readTransfer_32 (by decide) ?_
        have hP9 := hP.sub (ws' := [(a_this, .inr (7, [.ref a_text, .ref a_operands, .ref a_told, .int wordKind_20, .int wordPlace_21, .int wordEnd_22, .int number_23, .int statementPlace, .int what, .int how, .int (b2i isLast), .int faultKind_24, .int faultPlace_25])), (a_text, .inr (12, [.ref a_text_bytes, .int text_size])), (a_operands, .inl (g 0, 3, .inl operands_26)), (a_text_bytes, .inl (g 0, 160, .inl text_bytes))]) [0, 1, 2, 3] rfl
        have hD9 := hD.sub (ws' := [(a_this, .inr (7, [.ref a_text, .ref a_operands, .ref a_told, .int wordKind_20, .int wordPlace_21, .int wordEnd_22, .int number_23, .int statementPlace, .int what, .int how, .int (b2i isLast), .int faultKind_24, .int faultPlace_25])), (a_text, .inr (12, [.ref a_text_bytes, .int text_size])), (a_operands, .inl (g 0, 3, .inl operands_26)), (a_text_bytes, .inl (g 0, 160, .inl text_bytes))]) [0, 1, 2, 3] (by decide) rfl
        exact W.zret (v := 0) hx hb hr rfl (fun t ht hW => ⟨⟨_, (wordKind_20, wordPlace_21, wordEnd_22, number_23, what, faultKind_24, faultPlace_25, operands_26, ()), rfl, ⟨false, rfl, hw⟩, ⟨P_at ht hP9, hD9⟩⟩, hS.F ht⟩) hS.2.2 dX5_readTransfer_33
      · have hw := hw.2 (b2i_1 c_27)
        refine lv_iconst (v := 1) hx hb dX5_readTransfer_28 (by decide) ?_
        refine lv_goto (tgt := 33) hx hb dX5_readTransfer_29 (by decide) ?_
        have hP9 := hP.sub (ws' := [(a_this, .inr (7, [.ref a_text, .ref a_operands, .ref a_told, .int wordKind_20, .int wordPlace_21, .int wordEnd_22, .int number_23, .int statementPlace, .int what, .int how, .int (b2i isLast), .int faultKind_24, .int faultPlace_25])), (a_text, .inr (12, [.ref a_text_bytes, .int text_size])), (a_operands, .inl (g 0, 3, .inl operands_26)), (a_text_bytes, .inl (g 0, 160, .inl text_bytes))]) [0, 1, 2, 3] rfl
        have hD9 := hD.sub (ws' := [(a_this, .inr (7, [.ref a_text, .ref a_operands, .ref a_told, .int wordKind_20, .int wordPlace_21, .int wordEnd_22, .int number_23, .int statementPlace, .int what, .int how, .int (b2i isLast), .int faultKind_24, .int faultPlace_25])), (a_text, .inr (12, [.ref a_text_bytes, .int text_size])), (a_operands, .inl (g 0, 3, .inl operands_26)), (a_text_bytes, .inl (g 0, 160, .inl text_bytes))]) [0, 1, 2, 3] (by decide) rfl
        exact W.zret (v := 1) hx hb hr rfl (fun t ht hW => ⟨⟨_, (wordKind_20, wordPlace_21, wordEnd_22, number_23, what, faultKind_24, faultPlace_25, operands_26, ()), rfl, ⟨true, rfl, hw⟩, ⟨P_at ht hP9, hD9⟩⟩, hS.F ht⟩) hS.2.2 dX5_readTransfer_33
theorem dX5_readOption_0 : decode cX5_readOption 0 = .ok (.aload_n 0, 1) := by decide +kernel
theorem dX5_readOption_1 : decode cX5_readOption 1 = .ok (.ldc 125, 2) := by decide +kernel
theorem dX5_readOption_3 : decode cX5_readOption 3 = .ok (.invokevirtual 70, 3) := by decide +kernel
theorem dX5_readOption_18 : decode cX5_readOption 18 = .ok (.aload_n 0, 1) := by decide +kernel
theorem dX5_readOption_19 : decode cX5_readOption 19 = .ok (.getfield 25, 3) := by decide +kernel
theorem dX5_readOption_22 : decode cX5_readOption 22 = .ok (.aload_n 0, 1) := by decide +kernel
theorem dX5_readOption_23 : decode cX5_readOption 23 = .ok (.ldc 125, 2) := by decide +kernel
theorem dX5_readOption_25 : decode cX5_readOption 25 = .ok (.invokevirtual 70, 3) := by decide +kernel
theorem dX5_readOption_28 : decode cX5_readOption 28 = .ok (.ifCond .eq 7, 3) := by decide +kernel
theorem dX5_readOption_35 : decode cX5_readOption 35 = .ok (.iconst 1, 1) := by decide +kernel
theorem dX5_readOption_36 : decode cX5_readOption 36 = .ok (.putfield 129, 3) := by decide +kernel
theorem dX5_readOption_39 : decode cX5_readOption 39 = .ok (.iconst 1, 1) := by decide +kernel
theorem dX5_readOption_40 : decode cX5_readOption 40 = .ok (.ireturn, 1) := by decide +kernel
theorem dX5_readOption_31 : decode cX5_readOption 31 = .ok (.iconst 0, 1) := by decide +kernel
theorem dX5_readOption_32 : decode cX5_readOption 32 = .ok (.goto 4, 3) := by decide +kernel
theorem dX5_readOption_6 : decode cX5_readOption 6 = .ok (.ifCond .ne 12, 3) := by decide +kernel
theorem dX5_readOption_9 : decode cX5_readOption 9 = .ok (.aload_n 0, 1) := by decide +kernel
theorem dX5_readOption_10 : decode cX5_readOption 10 = .ok (.ldc 127, 2) := by decide +kernel
theorem dX5_readOption_12 : decode cX5_readOption 12 = .ok (.invokevirtual 70, 3) := by decide +kernel
theorem dX5_readOption_15 : decode cX5_readOption 15 = .ok (.ifCond .eq 26, 3) := by decide +kernel
theorem dX5_readOption_41 : decode cX5_readOption 41 = .ok (.aload_n 0, 1) := by decide +kernel
theorem dX5_readOption_42 : decode cX5_readOption 42 = .ok (.ldc 132, 2) := by decide +kernel
theorem dX5_readOption_44 : decode cX5_readOption 44 = .ok (.invokevirtual 70, 3) := by decide +kernel
theorem dX5_readOption_47 : decode cX5_readOption 47 = .ok (.ifCond .eq 13, 3) := by decide +kernel
theorem dX5_readOption_60 : decode cX5_readOption 60 = .ok (.aload_n 0, 1) := by decide +kernel
theorem dX5_readOption_61 : decode cX5_readOption 61 = .ok (.ldc 137, 2) := by decide +kernel
theorem dX5_readOption_63 : decode cX5_readOption 63 = .ok (.invokevirtual 70, 3) := by decide +kernel
theorem dX5_readOption_78 : decode cX5_readOption 78 = .ok (.aload_n 0, 1) := by decide +kernel
theorem dX5_readOption_79 : decode cX5_readOption 79 = .ok (.getfield 25, 3) := by decide +kernel
theorem dX5_readOption_82 : decode cX5_readOption 82 = .ok (.aload_n 0, 1) := by decide +kernel
theorem dX5_readOption_83 : decode cX5_readOption 83 = .ok (.ldc 137, 2) := by decide +kernel
theorem dX5_readOption_85 : decode cX5_readOption 85 = .ok (.invokevirtual 70, 3) := by decide +kernel
theorem dX5_readOption_96 : decode cX5_readOption 96 = .ok (.putfield 134, 3) := by decide +kernel
theorem dX5_readOption_99 : decode cX5_readOption 99 = .ok (.aload_n 0, 1) := by decide +kernel
theorem dX5_readOption_100 : decode cX5_readOption 100 = .ok (.iconst 1, 1) := by decide +kernel
theorem dX5_readOption_101 : decode cX5_readOption 101 = .ok (.bipush 50, 2) := by decide +kernel
theorem dX5_readOption_103 : decode cX5_readOption 103 = .ok (.invokevirtual 116, 3) := by decide +kernel
theorem dX5_readOption_106 : decode cX5_readOption 106 = .ok (.istore_n 1, 1) := by decide +kernel
theorem dX5_readOption_107 : decode cX5_readOption 107 = .ok (.aload_n 0, 1) := by decide +kernel
theorem dX5_readOption_108 : decode cX5_readOption 108 = .ok (.getfield 25, 3) := by decide +kernel
theorem dX5_readOption_111 : decode cX5_readOption 111 = .ok (.aload_n 0, 1) := by decide +kernel
theorem dX5_readOption_112 : decode cX5_readOption 112 = .ok (.getfield 39, 3) := by decide +kernel
theorem dX5_readOption_115 : decode cX5_readOption 115 = .ok (.putfield 141, 3) := by decide +kernel
theorem dX5_readOption_118 : decode cX5_readOption 118 = .ok (.iload_n 1, 1) := by decide +kernel
theorem dX5_readOption_119 : decode cX5_readOption 119 = .ok (.ireturn, 1) := by decide +kernel
theorem dX5_readOption_88 : decode cX5_readOption 88 = .ok (.ifCond .eq 7, 3) := by decide +kernel
theorem dX5_readOption_95 : decode cX5_readOption 95 = .ok (.iconst 1, 1) := by decide +kernel
theorem dX5_readOption_91 : decode cX5_readOption 91 = .ok (.iconst 0, 1) := by decide +kernel
theorem dX5_readOption_92 : decode cX5_readOption 92 = .ok (.goto 4, 3) := by decide +kernel
theorem dX5_readOption_66 : decode cX5_readOption 66 = .ok (.ifCond .ne 12, 3) := by decide +kernel
theorem dX5_readOption_69 : decode cX5_readOption 69 = .ok (.aload_n 0, 1) := by decide +kernel
theorem dX5_readOption_70 : decode cX5_readOption 70 = .ok (.ldc 139, 2) := by decide +kernel
theorem dX5_readOption_72 : decode cX5_readOption 72 = .ok (.invokevirtual 70, 3) := by decide +kernel
theorem dX5_readOption_75 : decode cX5_readOption 75 = .ok (.ifCond .eq 45, 3) := by decide +kernel
theorem dX5_readOption_120 : decode cX5_readOption 120 = .ok (.aload_n 0, 1) := by decide +kernel
theorem dX5_readOption_121 : decode cX5_readOption 121 = .ok (.ldc 144, 2) := by decide +kernel
theorem dX5_readOption_123 : decode cX5_readOption 123 = .ok (.invokevirtual 70, 3) := by decide +kernel
theorem dX5_readOption_126 : decode cX5_readOption 126 = .ok (.ifCond .eq 13, 3) := by decide +kernel
theorem dX5_readOption_139 : decode cX5_readOption 139 = .ok (.aload_n 0, 1) := by decide +kernel
theorem dX5_readOption_140 : decode cX5_readOption 140 = .ok (.ldc 149, 2) := by decide +kernel
theorem dX5_readOption_142 : decode cX5_readOption 142 = .ok (.invokevirtual 70, 3) := by decide +kernel
theorem dX5_readOption_157 : decode cX5_readOption 157 = .ok (.aload_n 0, 1) := by decide +kernel
theorem dX5_readOption_158 : decode cX5_readOption 158 = .ok (.getfield 25, 3) := by decide +kernel
theorem dX5_readOption_161 : decode cX5_readOption 161 = .ok (.aload_n 0, 1) := by decide +kernel
theorem dX5_readOption_162 : decode cX5_readOption 162 = .ok (.ldc 151, 2) := by decide +kernel
theorem dX5_readOption_164 : decode cX5_readOption 164 = .ok (.invokevirtual 70, 3) := by decide +kernel
theorem dX5_readOption_175 : decode cX5_readOption 175 = .ok (.putfield 146, 3) := by decide +kernel
theorem dX5_readOption_178 : decode cX5_readOption 178 = .ok (.aload_n 0, 1) := by decide +kernel
theorem dX5_readOption_179 : decode cX5_readOption 179 = .ok (.iconst 2, 1) := by decide +kernel
theorem dX5_readOption_180 : decode cX5_readOption 180 = .ok (.bipush 6, 2) := by decide +kernel
theorem dX5_readOption_182 : decode cX5_readOption 182 = .ok (.invokevirtual 116, 3) := by decide +kernel
theorem dX5_readOption_185 : decode cX5_readOption 185 = .ok (.istore_n 1, 1) := by decide +kernel
theorem dX5_readOption_186 : decode cX5_readOption 186 = .ok (.aload_n 0, 1) := by decide +kernel
theorem dX5_readOption_187 : decode cX5_readOption 187 = .ok (.getfield 25, 3) := by decide +kernel
theorem dX5_readOption_190 : decode cX5_readOption 190 = .ok (.aload_n 0, 1) := by decide +kernel
theorem dX5_readOption_191 : decode cX5_readOption 191 = .ok (.getfield 39, 3) := by decide +kernel
theorem dX5_readOption_194 : decode cX5_readOption 194 = .ok (.putfield 153, 3) := by decide +kernel
theorem dX5_readOption_197 : decode cX5_readOption 197 = .ok (.iload_n 1, 1) := by decide +kernel
theorem dX5_readOption_198 : decode cX5_readOption 198 = .ok (.ireturn, 1) := by decide +kernel
theorem dX5_readOption_167 : decode cX5_readOption 167 = .ok (.ifCond .eq 7, 3) := by decide +kernel
theorem dX5_readOption_174 : decode cX5_readOption 174 = .ok (.iconst 0, 1) := by decide +kernel
theorem dX5_readOption_170 : decode cX5_readOption 170 = .ok (.iconst 2, 1) := by decide +kernel
theorem dX5_readOption_171 : decode cX5_readOption 171 = .ok (.goto 4, 3) := by decide +kernel
theorem dX5_readOption_145 : decode cX5_readOption 145 = .ok (.ifCond .ne 12, 3) := by decide +kernel
theorem dX5_readOption_148 : decode cX5_readOption 148 = .ok (.aload_n 0, 1) := by decide +kernel
theorem dX5_readOption_149 : decode cX5_readOption 149 = .ok (.ldc 151, 2) := by decide +kernel
theorem dX5_readOption_151 : decode cX5_readOption 151 = .ok (.invokevirtual 70, 3) := by decide +kernel
theorem dX5_readOption_154 : decode cX5_readOption 154 = .ok (.ifCond .eq 45, 3) := by decide +kernel
theorem dX5_readOption_199 : decode cX5_readOption 199 = .ok (.aload_n 0, 1) := by decide +kernel
theorem dX5_readOption_200 : decode cX5_readOption 200 = .ok (.iconst 1, 1) := by decide +kernel
theorem dX5_readOption_201 : decode cX5_readOption 201 = .ok (.invokevirtual 107, 3) := by decide +kernel
theorem dX5_readOption_204 : decode cX5_readOption 204 = .ok (.ireturn, 1) := by decide +kernel
theorem dX5_readOption_129 : decode cX5_readOption 129 = .ok (.aload_n 0, 1) := by decide +kernel
theorem dX5_readOption_130 : decode cX5_readOption 130 = .ok (.getfield 25, 3) := by decide +kernel
theorem dX5_readOption_133 : decode cX5_readOption 133 = .ok (.iconst 1, 1) := by decide +kernel
theorem dX5_readOption_134 : decode cX5_readOption 134 = .ok (.putfield 146, 3) := by decide +kernel
theorem dX5_readOption_137 : decode cX5_readOption 137 = .ok (.iconst 1, 1) := by decide +kernel
theorem dX5_readOption_138 : decode cX5_readOption 138 = .ok (.ireturn, 1) := by decide +kernel
theorem dX5_readOption_50 : decode cX5_readOption 50 = .ok (.aload_n 0, 1) := by decide +kernel
theorem dX5_readOption_51 : decode cX5_readOption 51 = .ok (.getfield 25, 3) := by decide +kernel
theorem dX5_readOption_54 : decode cX5_readOption 54 = .ok (.iconst 2, 1) := by decide +kernel
theorem dX5_readOption_55 : decode cX5_readOption 55 = .ok (.putfield 134, 3) := by decide +kernel
theorem dX5_readOption_58 : decode cX5_readOption 58 = .ok (.iconst 1, 1) := by decide +kernel
theorem dX5_readOption_59 : decode cX5_readOption 59 = .ok (.ireturn, 1) := by decide +kernel
abbrev Wa_X5_readOption (g : Nat → ClassId) (a_this : Nat) (a_text : Nat) (a_operands : Nat) (a_told : Nat) (wordKind : Int32) (wordPlace : Int32) (wordEnd : Int32) (number : Int32) (statementPlace : Int32) (action : Int32) (how : Int32) (isLast : Bool) (faultKind : Int32) (faultPlace : Int32) (a_text_bytes : Nat) (text_size : Int32) (told_order : Int32) (told_runWay : Int32) (told_memory : Int32) (told_mergeWay : Int32) (told_ways : Int32) (text_bytes : Nat → Int32) : va_W := [(a_this, .inr (7, [.ref a_text, .ref a_operands, .ref a_told, .int wordKind, .int wordPlace, .int wordEnd, .int number, .int statementPlace, .int action, .int how, .int (b2i isLast), .int faultKind, .int faultPlace])), (a_text, .inr (12, [.ref a_text_bytes, .int text_size])), (a_told, .inr (10, [.int told_order, .int told_runWay, .int told_memory, .int told_mergeWay, .int told_ways])), (a_text_bytes, .inl (g 0, 160, .inl text_bytes))]
abbrev Wb_X5_readOption (g : Nat → ClassId) (a_this : Nat) (a_text : Nat) (a_operands : Nat) (a_told : Nat) (statementPlace : Int32) (action : Int32) (how : Int32) (isLast : Bool) (a_text_bytes : Nat) (text_size : Int32) (text_bytes : Nat → Int32) (u : Int32 × Int32 × Int32 × Int32 × Int32 × Int32 × Int32 × Int32 × Int32 × Int32 × Int32 × Unit) : va_W := [(a_this, .inr (7, [.ref a_text, .ref a_operands, .ref a_told, .int u.1, .int u.2.1, .int u.2.2.1, .int u.2.2.2.1, .int statementPlace, .int action, .int how, .int (b2i isLast), .int u.2.2.2.2.1, .int u.2.2.2.2.2.1])), (a_text, .inr (12, [.ref a_text_bytes, .int text_size])), (a_told, .inr (10, [.int u.2.2.2.2.2.2.1, .int u.2.2.2.2.2.2.2.1, .int u.2.2.2.2.2.2.2.2.1, .int u.2.2.2.2.2.2.2.2.2.1, .int u.2.2.2.2.2.2.2.2.2.2.1])), (a_text_bytes, .inl (g 0, 160, .inl text_bytes))]
set_option maxHeartbeats 8000000 in
set_option maxRecDepth 100000 in
theorem c_X5_readOption (l : Launch) (dC : Nat → ClassId) (dI : Nat → Nat → Nat) (g : Nat → ClassId) (a_this : Nat) (a_text : Nat) (a_operands : Nat) (a_told : Nat) (wordKind : Int32) (wordPlace : Int32) (wordEnd : Int32) (number : Int32) (statementPlace : Int32) (action : Int32) (how : Int32) (isLast : Bool) (faultKind : Int32) (faultPlace : Int32) (a_text_bytes : Nat) (text_size : Int32) (told_order : Int32) (told_runWay : Int32) (told_memory : Int32) (told_mergeWay : Int32) (told_ways : Int32) (text_bytes : Nat → Int32) (Q : Bool → Int32 → Int32 → Int32 → Int32 → Int32 → Int32 → Int32 → Int32 → Int32 → Int32 → Int32 → Prop) (hw : wp_X5_readOption wordKind wordPlace wordEnd number faultKind faultPlace text_size told_order told_runWay told_memory told_mergeWay told_ways text_bytes Q) (sz : Nat) : Met l yX5_readOption wqX5_readOption ({ frames := 11, cells := 0, slots := 0, locals := 142 }) (va_Pc [.ref a_this] (PG (dC, dI) g (Wa_X5_readOption g a_this a_text a_operands a_told wordKind wordPlace wordEnd number statementPlace action how isLast faultKind faultPlace a_text_bytes text_size told_order told_runWay told_memory told_mergeWay told_ways text_bytes) sz)) (va_Qi (fun (r : Int32) (u : Int32 × Int32 × Int32 × Int32 × Int32 × Int32 × Int32 × Int32 × Int32 × Int32 × Int32 × Unit) => ∃ b : Bool, r = b2i b ∧ Q b u.1 u.2.1 u.2.2.1 u.2.2.2.1 u.2.2.2.2.1 u.2.2.2.2.2.1 u.2.2.2.2.2.2.1 u.2.2.2.2.2.2.2.1 u.2.2.2.2.2.2.2.2.1 u.2.2.2.2.2.2.2.2.2.1 u.2.2.2.2.2.2.2.2.2.2.1) (fun (u : Int32 × Int32 × Int32 × Int32 × Int32 × Int32 × Int32 × Int32 × Int32 × Int32 × Int32 × Unit) t9 => va_P (dC, dI) vwCl (Wb_X5_readOption g a_this a_text a_operands a_told statementPlace action how isLast a_text_bytes text_size text_bytes u) t9.heap ∧ va_D (va_A (Wa_X5_readOption g a_this a_text a_operands a_told wordKind wordPlace wordEnd number statementPlace action how isLast faultKind faultPlace a_text_bytes text_size told_order told_runWay told_memory told_mergeWay told_ways text_bytes) sz) (Wb_X5_readOption g a_this a_text a_operands a_told statementPlace action how isLast a_text_bytes text_size text_bytes u)) (va_A (Wa_X5_readOption g a_this a_text a_operands a_told wordKind wordPlace wordEnd number statementPlace action how isLast faultKind faultPlace a_text_bytes text_size told_order told_runWay told_memory told_mergeWay told_ways text_bytes) sz)) 0 0 (va_A (Wa_X5_readOption g a_this a_text a_operands a_told wordKind wordPlace wordEnd number statementPlace action how isLast faultKind faultPlace a_text_bytes text_size told_order told_runWay told_memory told_mergeWay told_ways text_bytes) sz) := by
  refine Met.ofW (cc := cX5_readOption) (maxL := 2) (ret := (some .boolean)) (by decide) rfl ?_
  intro p e s m args below meth c s₁ B hml hv
  obtain ⟨rfl, hsz, hP, hK, hD0, hG⟩ := hv
  have hx := B.exec
  have hb := B.bytes
  have hr := B.returns
  have hts := atoms_spec (ws := wqX5_readOption) B.pre
  have hown : s.vm.findClass RX5 = some m.cls := findClass_of_methodNamed B.named
  have hlocks := B.notSynchronized
  subst hsz
  have hD := hD0.self (sz := s.heap.size)
  generalize hAe : va_A (Wa_X5_readOption g a_this a_text a_operands a_told wordKind wordPlace wordEnd number statementPlace action how isLast faultKind faultPlace a_text_bytes text_size told_order told_runWay told_memory told_mergeWay told_ways text_bytes) s.heap.size = A at hD hG ⊢
  have hA : ∀ q : Nat, s.heap.size ≤ q → A q := fun q h => by rw [← hAe]; exact Or.inr h
  have hS : va_S A s.heap s.heap [] := va_S.rf
  have hl := lv_entry ([.ref a_this]) (n := 2) (Nat.le_of_ble_eq_true rfl)
  rw [lg_entry_eq]
  generalize (lg_sl ([.ref a_this]) ++ List.replicate (2 - (lg_sl ([.ref a_this])).length) Slot.unset).toArray = ls at hl ⊢
  have hl : lv_has ls 2 [(0, .ref a_this)] := hl
  unfold wp_X5_readOption at hw
  have hf25 := hts (Cond.fieldLink RX5 25 "RunmergeOffice$Reader" "told" "LRunmergeOffice$Settings;") (aw_l aw_2_81)
  have hiX5 : ∀ w ∈ u_ws RX5 TX5 13, w ∈ wqX5_readOption := fun w h => aw_l (aw_wsX50 w h)
  have hiX8 : ∀ w ∈ u_ws RX8 TX8 5, w ∈ wqX5_readOption := fun w h => aw_l (aw_wsX80 w h)
  have hf39 := hts (Cond.fieldLink RX5 39 "RunmergeOffice$Reader" "number" "I") (aw_l aw_2_86)
  refine lv_aload_n hx hb dX5_readOption_0 rfl (lv_at hl 0 rfl) ?_
  obtain ⟨as_2, hR_2, hT_2⟩ := GSb_of (sx_2 hG)
  refine va_ldcS hx hb hown hR_2 dX5_readOption_1 ?_
  refine va_calli (va_runV (As := [.ref as_2]) (rest := []) ⟨hx, hb, hml, hown, hts⟩ (c_X5_isWord l dC dI g (Wd := [(a_this, .inr (7, [.ref a_text, .ref a_operands, .ref a_told, .int wordKind, .int wordPlace, .int wordEnd, .int number, .int statementPlace, .int action, .int how, .int (b2i isLast), .int faultKind, .int faultPlace])), (a_text, .inr (12, [.ref a_text_bytes, .int text_size])), (a_told, .inr (10, [.int told_order, .int told_runWay, .int told_memory, .int told_mergeWay, .int told_ways])), (a_text_bytes, .inl (g 0, 160, .inl text_bytes))]) (a_this := a_this) (a_text := a_text) (a_operands := a_operands) (a_told := a_told) (wordKind := wordKind) (wordPlace := wordPlace) (wordEnd := wordEnd) (number := number) (statementPlace := statementPlace) (action := action) (how := how) (isLast := isLast) (faultKind := faultKind) (faultPlace := faultPlace) (a_text_bytes := a_text_bytes) (text_size := text_size) (text_bytes := text_bytes) (a_word := as_2) (word_n := (tn 10)) (word_f := (tb 10)) (k_this := 0) (w_this := rfl) (k_text := 1) (w_text := rfl) (k_text_bytes := 3) (w_text_bytes := rfl) (hw := hw) (sz := s.heap.size)) (cwV 1 hts (gqV aw_5_76 aw_5_78 aw_0_33 aw_1_10 aw_5_79) rfl rfl rfl (by decide +kernel) ⟨Nat.le_of_ble_eq_true rfl, Nat.le_of_ble_eq_true rfl⟩) ⟨PX_blind (GSb_go (tn 10) (tb 10) as_2), va_recv hK hP (ci := 7) (q0 := 0) rfl rfl, PX_call (GSb_go (tn 10) (tb 10) as_2) hK hG hS hP hD (A_all hD hA hS.1) hT_2⟩ rfl rfl hl.1 rfl (lv_room (Nat.le_of_ble_eq_true rfl)) dX5_readOption_3 ⟨Nat.le_of_ble_eq_true rfl, Nat.le_of_ble_eq_true rfl⟩) hS (fun q _ h => (A_all hD hA hS.1) q h) (A_all hD hA hS.1) (fun r_1 u_1 t_1 H_1 L_1 ht_1 hvm_1 hw_1 hB_1 hz_1 hk_1 hS => ?_)
  rw [ht_1] at hB_1
  have hP : va_P (dC, dI) vwCl [(a_this, .inr (7, [.ref a_text, .ref a_operands, .ref a_told, .int wordKind, .int wordPlace, .int wordEnd, .int number, .int statementPlace, .int action, .int how, .int (b2i isLast), .int faultKind, .int faultPlace])), (a_text, .inr (12, [.ref a_text_bytes, .int text_size])), (a_told, .inr (10, [.int told_order, .int told_runWay, .int told_memory, .int told_mergeWay, .int told_ways])), (a_text_bytes, .inl (g 0, 160, .inl text_bytes))] H_1 := hB_1
  obtain ⟨b_1, rfl, hw⟩ := hw_1
  refine W_abs (fun QM hQM => ?_)
  have JN18 : ∀  (H : Heap) (locs : List Loc), (wj_X5_readOption_18 wordKind wordPlace wordEnd number faultKind faultPlace text_size told_runWay told_memory told_mergeWay told_ways text_bytes Q)  → va_P (dC, dI) vwCl [(a_this, .inr (7, [.ref a_text, .ref a_operands, .ref a_told, .int wordKind, .int wordPlace, .int wordEnd, .int number, .int statementPlace, .int action, .int how, .int (b2i isLast), .int faultKind, .int faultPlace])), (a_text, .inr (12, [.ref a_text_bytes, .int text_size])), (a_told, .inr (10, [.int told_order, .int told_runWay, .int told_memory, .int told_mergeWay, .int told_ways])), (a_text_bytes, .inl (g 0, 160, .inl text_bytes))] H → va_D A [(a_this, .inr (7, [.ref a_text, .ref a_operands, .ref a_told, .int wordKind, .int wordPlace, .int wordEnd, .int number, .int statementPlace, .int action, .int how, .int (b2i isLast), .int faultKind, .int faultPlace])), (a_text, .inr (12, [.ref a_text_bytes, .int text_size])), (a_told, .inr (10, [.int told_order, .int told_runWay, .int told_memory, .int told_mergeWay, .int told_ways])), (a_text_bytes, .inl (g 0, 160, .inl text_bytes))] → va_S A s.heap H locs → ∀ (ls : Array Slot), lv_has ls 2 [(0, .ref a_this)] → W p l e (headSpec wqX5_readOption ({ frames := 11, cells := 0, slots := 0, locals := 142 })).room s m ([.ref a_this] : List Value).toArray below meth c H locs 0 0 QM (F0 m 18 ls []) := by
    intro  H locs hw hP hD hS ls hl
    refine lv_aload_n hx hb dX5_readOption_18 rfl (lv_at hl 0 rfl) ?_
    refine va_get (D := (dC, dI)) (ci := 7) (v := .ref a_told) (C := RX5) (T := TX5) (N := 13) hx hb hts hiX5 hown hK hP 0 rfl rfl 2 (by decide) hf25 (fun _ h9 => h9) rfl dX5_readOption_19 ?_
    refine lv_aload_n hx hb dX5_readOption_22 rfl (lv_at hl 0 rfl) ?_
    obtain ⟨as_2, hR_2, hT_2⟩ := GSb_of (sx_2 hG)
    refine va_ldcS hx hb hown hR_2 dX5_readOption_23 ?_
    refine va_calli (va_runV (As := [.ref as_2]) (rest := [.ref a_told]) ⟨hx, hb, hml, hown, hts⟩ (c_X5_isWord l dC dI g (Wd := [(a_this, .inr (7, [.ref a_text, .ref a_operands, .ref a_told, .int wordKind, .int wordPlace, .int wordEnd, .int number, .int statementPlace, .int action, .int how, .int (b2i isLast), .int faultKind, .int faultPlace])), (a_text, .inr (12, [.ref a_text_bytes, .int text_size])), (a_told, .inr (10, [.int told_order, .int told_runWay, .int told_memory, .int told_mergeWay, .int told_ways])), (a_text_bytes, .inl (g 0, 160, .inl text_bytes))]) (a_this := a_this) (a_text := a_text) (a_operands := a_operands) (a_told := a_told) (wordKind := wordKind) (wordPlace := wordPlace) (wordEnd := wordEnd) (number := number) (statementPlace := statementPlace) (action := action) (how := how) (isLast := isLast) (faultKind := faultKind) (faultPlace := faultPlace) (a_text_bytes := a_text_bytes) (text_size := text_size) (text_bytes := text_bytes) (a_word := as_2) (word_n := (tn 10)) (word_f := (tb 10)) (k_this := 0) (w_this := rfl) (k_text := 1) (w_text := rfl) (k_text_bytes := 3) (w_text_bytes := rfl) (hw := hw) (sz := H.size)) (cwV 1 hts (gqV aw_5_76 aw_5_78 aw_0_33 aw_1_10 aw_5_79) rfl rfl rfl (by decide +kernel) ⟨Nat.le_of_ble_eq_true rfl, Nat.le_of_ble_eq_true rfl⟩) ⟨PX_blind (GSb_go (tn 10) (tb 10) as_2), va_recv hK hP (ci := 7) (q0 := 0) rfl rfl, PX_call (GSb_go (tn 10) (tb 10) as_2) hK hG hS hP hD (A_all hD hA hS.1) hT_2⟩ rfl rfl hl.1 rfl (lv_room (Nat.le_of_ble_eq_true rfl)) dX5_readOption_25 ⟨Nat.le_of_ble_eq_true rfl, Nat.le_of_ble_eq_true rfl⟩) hS (fun q _ h => (A_all hD hA hS.1) q h) (A_all hD hA hS.1) (fun r_2 u_2 t_2 H_2 L_2 ht_2 hvm_2 hw_2 hB_2 hz_2 hk_2 hS => ?_)
    rw [ht_2] at hB_2
    have hP : va_P (dC, dI) vwCl [(a_this, .inr (7, [.ref a_text, .ref a_operands, .ref a_told, .int wordKind, .int wordPlace, .int wordEnd, .int number, .int statementPlace, .int action, .int how, .int (b2i isLast), .int faultKind, .int faultPlace])), (a_text, .inr (12, [.ref a_text_bytes, .int text_size])), (a_told, .inr (10, [.int told_order, .int told_runWay, .int told_memory, .int told_mergeWay, .int told_ways])), (a_text_bytes, .inl (g 0, 160, .inl text_bytes))] H_2 := hB_2
    obtain ⟨b_2, rfl, hw⟩ := hw_2
    refine lv_if_eq (tgt := 35) hx hb dX5_readOption_28 (by decide) (fun c_3 => ?_) (fun c_3 => ?_)
    · have hw := hw.1 (b2i_0 c_3)
      refine lv_iconst (v := 1) hx hb dX5_readOption_35 (by decide) ?_
      refine va_putN (D := (dC, dI)) (ci := 10) (v := .int 1) (ty := .int) (C := RX8) (T := TX8) (N := 5) hx hb hts hiX8 tyX8 tyX8_ok nmX8 hown hK hP hD hS 2 rfl rfl 0 (by decide) (nf_7 hG) (fun _ h9 => h9) rfl (by decide +kernel) rfl rfl (Nat.le_of_ble_eq_true rfl) dX5_readOption_36 (fun H_4 L_5 hP hD hS => ?_)
      have hP : va_P (dC, dI) vwCl [(a_this, .inr (7, [.ref a_text, .ref a_operands, .ref a_told, .int wordKind, .int wordPlace, .int wordEnd, .int number, .int statementPlace, .int action, .int how, .int (b2i isLast), .int faultKind, .int faultPlace])), (a_text, .inr (12, [.ref a_text_bytes, .int text_size])), (a_told, .inr (10, [.int 1, .int told_runWay, .int told_memory, .int told_mergeWay, .int told_ways])), (a_text_bytes, .inl (g 0, 160, .inl text_bytes))] H_4 := hP
      have hD : va_D A [(a_this, .inr (7, [.ref a_text, .ref a_operands, .ref a_told, .int wordKind, .int wordPlace, .int wordEnd, .int number, .int statementPlace, .int action, .int how, .int (b2i isLast), .int faultKind, .int faultPlace])), (a_text, .inr (12, [.ref a_text_bytes, .int text_size])), (a_told, .inr (10, [.int 1, .int told_runWay, .int told_memory, .int told_mergeWay, .int told_ways])), (a_text_bytes, .inl (g 0, 160, .inl text_bytes))] := hD
      refine lv_iconst (v := 1) hx hb dX5_readOption_39 (by decide) ?_
      subst hQM
      have hP9 := hP.sub (ws' := [(a_this, .inr (7, [.ref a_text, .ref a_operands, .ref a_told, .int wordKind, .int wordPlace, .int wordEnd, .int number, .int statementPlace, .int action, .int how, .int (b2i isLast), .int faultKind, .int faultPlace])), (a_text, .inr (12, [.ref a_text_bytes, .int text_size])), (a_told, .inr (10, [.int 1, .int told_runWay, .int told_memory, .int told_mergeWay, .int told_ways])), (a_text_bytes, .inl (g 0, 160, .inl text_bytes))]) [0, 1, 2, 3] rfl
      have hD9 := hD.sub (ws' := [(a_this, .inr (7, [.ref a_text, .ref a_operands, .ref a_told, .int wordKind, .int wordPlace, .int wordEnd, .int number, .int statementPlace, .int action, .int how, .int (b2i isLast), .int faultKind, .int faultPlace])), (a_text, .inr (12, [.ref a_text_bytes, .int text_size])), (a_told, .inr (10, [.int 1, .int told_runWay, .int told_memory, .int told_mergeWay, .int told_ways])), (a_text_bytes, .inl (g 0, 160, .inl text_bytes))]) [0, 1, 2, 3] (by decide) rfl
      exact W.zret (v := 1) hx hb hr rfl (fun t ht hW => ⟨⟨_, (wordKind, wordPlace, wordEnd, number, faultKind, faultPlace, 1, told_runWay, told_memory, told_mergeWay, told_ways, ()), rfl, ⟨true, rfl, hw⟩, ⟨P_at ht hP9, hD9⟩⟩, hS.F ht⟩) hS.2.2 dX5_readOption_40
    · have hw := hw.2 (b2i_1 c_3)
      refine lv_iconst (v := 0) hx hb dX5_readOption_31 (by decide) ?_
      refine lv_goto (tgt := 36) hx hb dX5_readOption_32 (by decide) ?_
      refine va_putN (D := (dC, dI)) (ci := 10) (v := .int 0) (ty := .int) (C := RX8) (T := TX8) (N := 5) hx hb hts hiX8 tyX8 tyX8_ok nmX8 hown hK hP hD hS 2 rfl rfl 0 (by decide) (nf_7 hG) (fun _ h9 => h9) rfl (by decide +kernel) rfl rfl (Nat.le_of_ble_eq_true rfl) dX5_readOption_36 (fun H_6 L_7 hP hD hS => ?_)
      have hP : va_P (dC, dI) vwCl [(a_this, .inr (7, [.ref a_text, .ref a_operands, .ref a_told, .int wordKind, .int wordPlace, .int wordEnd, .int number, .int statementPlace, .int action, .int how, .int (b2i isLast), .int faultKind, .int faultPlace])), (a_text, .inr (12, [.ref a_text_bytes, .int text_size])), (a_told, .inr (10, [.int 0, .int told_runWay, .int told_memory, .int told_mergeWay, .int told_ways])), (a_text_bytes, .inl (g 0, 160, .inl text_bytes))] H_6 := hP
      have hD : va_D A [(a_this, .inr (7, [.ref a_text, .ref a_operands, .ref a_told, .int wordKind, .int wordPlace, .int wordEnd, .int number, .int statementPlace, .int action, .int how, .int (b2i isLast), .int faultKind, .int faultPlace])), (a_text, .inr (12, [.ref a_text_bytes, .int text_size])), (a_told, .inr (10, [.int 0, .int told_runWay, .int told_memory, .int told_mergeWay, .int told_ways])), (a_text_bytes, .inl (g 0, 160, .inl text_bytes))] := hD
      refine lv_iconst (v := 1) hx hb dX5_readOption_39 (by decide) ?_
      subst hQM
      have hP9 := hP.sub (ws' := [(a_this, .inr (7, [.ref a_text, .ref a_operands, .ref a_told, .int wordKind, .int wordPlace, .int wordEnd, .int number, .int statementPlace, .int action, .int how, .int (b2i isLast), .int faultKind, .int faultPlace])), (a_text, .inr (12, [.ref a_text_bytes, .int text_size])), (a_told, .inr (10, [.int 0, .int told_runWay, .int told_memory, .int told_mergeWay, .int told_ways])), (a_text_bytes, .inl (g 0, 160, .inl text_bytes))]) [0, 1, 2, 3] rfl
      have hD9 := hD.sub (ws' := [(a_this, .inr (7, [.ref a_text, .ref a_operands, .ref a_told, .int wordKind, .int wordPlace, .int wordEnd, .int number, .int statementPlace, .int action, .int how, .int (b2i isLast), .int faultKind, .int faultPlace])), (a_text, .inr (12, [.ref a_text_bytes, .int text_size])), (a_told, .inr (10, [.int 0, .int told_runWay, .int told_memory, .int told_mergeWay, .int told_ways])), (a_text_bytes, .inl (g 0, 160, .inl text_bytes))]) [0, 1, 2, 3] (by decide) rfl
      exact W.zret (v := 1) hx hb hr rfl (fun t ht hW => ⟨⟨_, (wordKind, wordPlace, wordEnd, number, faultKind, faultPlace, 0, told_runWay, told_memory, told_mergeWay, told_ways, ()), rfl, ⟨true, rfl, hw⟩, ⟨P_at ht hP9, hD9⟩⟩, hS.F ht⟩) hS.2.2 dX5_readOption_40
  refine lv_if_ne (tgt := 18) hx hb dX5_readOption_6 (by decide) (fun c_8 => ?_) (fun c_8 => ?_)
  · have hw := hw.2 (b2i_1 c_8)
    exact JN18  _ _ hw (hP.sub [0, 1, 2, 3] rfl) (hD.sub [0, 1, 2, 3] (by decide) rfl) hS _ (lv_sub hl [0] rfl)
  · have hw := hw.1 (b2i_0 c_8)
    refine lv_aload_n hx hb dX5_readOption_9 rfl (lv_at hl 0 rfl) ?_
    obtain ⟨as_3, hR_3, hT_3⟩ := GSb_of (sx_3 hG)
    refine va_ldcS hx hb hown hR_3 dX5_readOption_10 ?_
    refine va_calli (va_runV (As := [.ref as_3]) (rest := []) ⟨hx, hb, hml, hown, hts⟩ (c_X5_isWord l dC dI g (Wd := [(a_this, .inr (7, [.ref a_text, .ref a_operands, .ref a_told, .int wordKind, .int wordPlace, .int wordEnd, .int number, .int statementPlace, .int action, .int how, .int (b2i isLast), .int faultKind, .int faultPlace])), (a_text, .inr (12, [.ref a_text_bytes, .int text_size])), (a_told, .inr (10, [.int told_order, .int told_runWay, .int told_memory, .int told_mergeWay, .int told_ways])), (a_text_bytes, .inl (g 0, 160, .inl text_bytes))]) (a_this := a_this) (a_text := a_text) (a_operands := a_operands) (a_told := a_told) (wordKind := wordKind) (wordPlace := wordPlace) (wordEnd := wordEnd) (number := number) (statementPlace := statementPlace) (action := action) (how := how) (isLast := isLast) (faultKind := faultKind) (faultPlace := faultPlace) (a_text_bytes := a_text_bytes) (text_size := text_size) (text_bytes := text_bytes) (a_word := as_3) (word_n := (tn 11)) (word_f := (tb 11)) (k_this := 0) (w_this := rfl) (k_text := 1) (w_text := rfl) (k_text_bytes := 3) (w_text_bytes := rfl) (hw := hw) (sz := H_1.size)) (cwV 1 hts (gqV aw_5_76 aw_5_78 aw_0_33 aw_1_10 aw_5_79) rfl rfl rfl (by decide +kernel) ⟨Nat.le_of_ble_eq_true rfl, Nat.le_of_ble_eq_true rfl⟩) ⟨PX_blind (GSb_go (tn 11) (tb 11) as_3), va_recv hK hP (ci := 7) (q0 := 0) rfl rfl, PX_call (GSb_go (tn 11) (tb 11) as_3) hK hG hS hP hD (A_all hD hA hS.1) hT_3⟩ rfl rfl hl.1 rfl (lv_room (Nat.le_of_ble_eq_true rfl)) dX5_readOption_12 ⟨Nat.le_of_ble_eq_true rfl, Nat.le_of_ble_eq_true rfl⟩) hS (fun q _ h => (A_all hD hA hS.1) q h) (A_all hD hA hS.1) (fun r_9 u_9 t_9 H_9 L_9 ht_9 hvm_9 hw_9 hB_9 hz_9 hk_9 hS => ?_)
    rw [ht_9] at hB_9
    have hP : va_P (dC, dI) vwCl [(a_this, .inr (7, [.ref a_text, .ref a_operands, .ref a_told, .int wordKind, .int wordPlace, .int wordEnd, .int number, .int statementPlace, .int action, .int how, .int (b2i isLast), .int faultKind, .int faultPlace])), (a_text, .inr (12, [.ref a_text_bytes, .int text_size])), (a_told, .inr (10, [.int told_order, .int told_runWay, .int told_memory, .int told_mergeWay, .int told_ways])), (a_text_bytes, .inl (g 0, 160, .inl text_bytes))] H_9 := hB_9
    obtain ⟨b_9, rfl, hw⟩ := hw_9
    refine lv_if_eq (tgt := 41) hx hb dX5_readOption_15 (by decide) (fun c_10 => ?_) (fun c_10 => ?_)
    · have hw := hw.1 (b2i_0 c_10)
      refine lv_aload_n hx hb dX5_readOption_41 rfl (lv_at hl 0 rfl) ?_
      obtain ⟨as_4, hR_4, hT_4⟩ := GSb_of (sx_4 hG)
      refine va_ldcS hx hb hown hR_4 dX5_readOption_42 ?_
      refine va_calli (va_runV (As := [.ref as_4]) (rest := []) ⟨hx, hb, hml, hown, hts⟩ (c_X5_isWord l dC dI g (Wd := [(a_this, .inr (7, [.ref a_text, .ref a_operands, .ref a_told, .int wordKind, .int wordPlace, .int wordEnd, .int number, .int statementPlace, .int action, .int how, .int (b2i isLast), .int faultKind, .int faultPlace])), (a_text, .inr (12, [.ref a_text_bytes, .int text_size])), (a_told, .inr (10, [.int told_order, .int told_runWay, .int told_memory, .int told_mergeWay, .int told_ways])), (a_text_bytes, .inl (g 0, 160, .inl text_bytes))]) (a_this := a_this) (a_text := a_text) (a_operands := a_operands) (a_told := a_told) (wordKind := wordKind) (wordPlace := wordPlace) (wordEnd := wordEnd) (number := number) (statementPlace := statementPlace) (action := action) (how := how) (isLast := isLast) (faultKind := faultKind) (faultPlace := faultPlace) (a_text_bytes := a_text_bytes) (text_size := text_size) (text_bytes := text_bytes) (a_word := as_4) (word_n := (tn 12)) (word_f := (tb 12)) (k_this := 0) (w_this := rfl) (k_text := 1) (w_text := rfl) (k_text_bytes := 3) (w_text_bytes := rfl) (hw := hw) (sz := H_9.size)) (cwV 1 hts (gqV aw_5_76 aw_5_78 aw_0_33 aw_1_10 aw_5_79) rfl rfl rfl (by decide +kernel) ⟨Nat.le_of_ble_eq_true rfl, Nat.le_of_ble_eq_true rfl⟩) ⟨PX_blind (GSb_go (tn 12) (tb 12) as_4), va_recv hK hP (ci := 7) (q0 := 0) rfl rfl, PX_call (GSb_go (tn 12) (tb 12) as_4) hK hG hS hP hD (A_all hD hA hS.1) hT_4⟩ rfl rfl hl.1 rfl (lv_room (Nat.le_of_ble_eq_true rfl)) dX5_readOption_44 ⟨Nat.le_of_ble_eq_true rfl, Nat.le_of_ble_eq_true rfl⟩) hS (fun q _ h => (A_all hD hA hS.1) q h) (A_all hD hA hS.1) (fun r_11 u_11 t_11 H_11 L_11 ht_11 hvm_11 hw_11 hB_11 hz_11 hk_11 hS => ?_)
      rw [ht_11] at hB_11
      have hP : va_P (dC, dI) vwCl [(a_this, .inr (7, [.ref a_text, .ref a_operands, .ref a_told, .int wordKind, .int wordPlace, .int wordEnd, .int number, .int statementPlace, .int action, .int how, .int (b2i isLast), .int faultKind, .int faultPlace])), (a_text, .inr (12, [.ref a_text_bytes, .int text_size])), (a_told, .inr (10, [.int told_order, .int told_runWay, .int told_memory, .int told_mergeWay, .int told_ways])), (a_text_bytes, .inl (g 0, 160, .inl text_bytes))] H_11 := hB_11
      obtain ⟨b_11, rfl, hw⟩ := hw_11
      refine lv_if_eq (tgt := 60) hx hb dX5_readOption_47 (by decide) (fun c_12 => ?_) (fun c_12 => ?_)
      · have hw := hw.1 (b2i_0 c_12)
        refine lv_aload_n hx hb dX5_readOption_60 rfl (lv_at hl 0 rfl) ?_
        obtain ⟨as_5, hR_5, hT_5⟩ := GSb_of (sx_5 hG)
        refine va_ldcS hx hb hown hR_5 dX5_readOption_61 ?_
        refine va_calli (va_runV (As := [.ref as_5]) (rest := []) ⟨hx, hb, hml, hown, hts⟩ (c_X5_isWord l dC dI g (Wd := [(a_this, .inr (7, [.ref a_text, .ref a_operands, .ref a_told, .int wordKind, .int wordPlace, .int wordEnd, .int number, .int statementPlace, .int action, .int how, .int (b2i isLast), .int faultKind, .int faultPlace])), (a_text, .inr (12, [.ref a_text_bytes, .int text_size])), (a_told, .inr (10, [.int told_order, .int told_runWay, .int told_memory, .int told_mergeWay, .int told_ways])), (a_text_bytes, .inl (g 0, 160, .inl text_bytes))]) (a_this := a_this) (a_text := a_text) (a_operands := a_operands) (a_told := a_told) (wordKind := wordKind) (wordPlace := wordPlace) (wordEnd := wordEnd) (number := number) (statementPlace := statementPlace) (action := action) (how := how) (isLast := isLast) (faultKind := faultKind) (faultPlace := faultPlace) (a_text_bytes := a_text_bytes) (text_size := text_size) (text_bytes := text_bytes) (a_word := as_5) (word_n := (tn 13)) (word_f := (tb 13)) (k_this := 0) (w_this := rfl) (k_text := 1) (w_text := rfl) (k_text_bytes := 3) (w_text_bytes := rfl) (hw := hw) (sz := H_11.size)) (cwV 1 hts (gqV aw_5_76 aw_5_78 aw_0_33 aw_1_10 aw_5_79) rfl rfl rfl (by decide +kernel) ⟨Nat.le_of_ble_eq_true rfl, Nat.le_of_ble_eq_true rfl⟩) ⟨PX_blind (GSb_go (tn 13) (tb 13) as_5), va_recv hK hP (ci := 7) (q0 := 0) rfl rfl, PX_call (GSb_go (tn 13) (tb 13) as_5) hK hG hS hP hD (A_all hD hA hS.1) hT_5⟩ rfl rfl hl.1 rfl (lv_room (Nat.le_of_ble_eq_true rfl)) dX5_readOption_63 ⟨Nat.le_of_ble_eq_true rfl, Nat.le_of_ble_eq_true rfl⟩) hS (fun q _ h => (A_all hD hA hS.1) q h) (A_all hD hA hS.1) (fun r_13 u_13 t_13 H_13 L_13 ht_13 hvm_13 hw_13 hB_13 hz_13 hk_13 hS => ?_)
        rw [ht_13] at hB_13
        have hP : va_P (dC, dI) vwCl [(a_this, .inr (7, [.ref a_text, .ref a_operands, .ref a_told, .int wordKind, .int wordPlace, .int wordEnd, .int number, .int statementPlace, .int action, .int how, .int (b2i isLast), .int faultKind, .int faultPlace])), (a_text, .inr (12, [.ref a_text_bytes, .int text_size])), (a_told, .inr (10, [.int told_order, .int told_runWay, .int told_memory, .int told_mergeWay, .int told_ways])), (a_text_bytes, .inl (g 0, 160, .inl text_bytes))] H_13 := hB_13
        obtain ⟨b_13, rfl, hw⟩ := hw_13
        have JN78 : ∀  (H : Heap) (locs : List Loc), (wj_X5_readOption_78 wordKind wordPlace wordEnd number faultKind faultPlace text_size told_order told_mergeWay told_ways text_bytes Q)  → va_P (dC, dI) vwCl [(a_this, .inr (7, [.ref a_text, .ref a_operands, .ref a_told, .int wordKind, .int wordPlace, .int wordEnd, .int number, .int statementPlace, .int action, .int how, .int (b2i isLast), .int faultKind, .int faultPlace])), (a_text, .inr (12, [.ref a_text_bytes, .int text_size])), (a_told, .inr (10, [.int told_order, .int told_runWay, .int told_memory, .int told_mergeWay, .int told_ways])), (a_text_bytes, .inl (g 0, 160, .inl text_bytes))] H → va_D A [(a_this, .inr (7, [.ref a_text, .ref a_operands, .ref a_told, .int wordKind, .int wordPlace, .int wordEnd, .int number, .int statementPlace, .int action, .int how, .int (b2i isLast), .int faultKind, .int faultPlace])), (a_text, .inr (12, [.ref a_text_bytes, .int text_size])), (a_told, .inr (10, [.int told_order, .int told_runWay, .int told_memory, .int told_mergeWay, .int told_ways])), (a_text_bytes, .inl (g 0, 160, .inl text_bytes))] → va_S A s.heap H locs → ∀ (ls : Array Slot), lv_has ls 2 [(0, .ref a_this)] → W p l e (headSpec wqX5_readOption ({ frames := 11, cells := 0, slots := 0, locals := 142 })).room s m ([.ref a_this] : List Value).toArray below meth c H locs 0 0 QM (F0 m 78 ls []) := by
          intro  H locs hw hP hD hS ls hl
          refine lv_aload_n hx hb dX5_readOption_78 rfl (lv_at hl 0 rfl) ?_
          refine va_get (D := (dC, dI)) (ci := 7) (v := .ref a_told) (C := RX5) (T := TX5) (N := 13) hx hb hts hiX5 hown hK hP 0 rfl rfl 2 (by decide) hf25 (fun _ h9 => h9) rfl dX5_readOption_79 ?_
          refine lv_aload_n hx hb dX5_readOption_82 rfl (lv_at hl 0 rfl) ?_
          obtain ⟨as_5, hR_5, hT_5⟩ := GSb_of (sx_5 hG)
          refine va_ldcS hx hb hown hR_5 dX5_readOption_83 ?_
          refine va_calli (va_runV (As := [.ref as_5]) (rest := [.ref a_told]) ⟨hx, hb, hml, hown, hts⟩ (c_X5_isWord l dC dI g (Wd := [(a_this, .inr (7, [.ref a_text, .ref a_operands, .ref a_told, .int wordKind, .int wordPlace, .int wordEnd, .int number, .int statementPlace, .int action, .int how, .int (b2i isLast), .int faultKind, .int faultPlace])), (a_text, .inr (12, [.ref a_text_bytes, .int text_size])), (a_told, .inr (10, [.int told_order, .int told_runWay, .int told_memory, .int told_mergeWay, .int told_ways])), (a_text_bytes, .inl (g 0, 160, .inl text_bytes))]) (a_this := a_this) (a_text := a_text) (a_operands := a_operands) (a_told := a_told) (wordKind := wordKind) (wordPlace := wordPlace) (wordEnd := wordEnd) (number := number) (statementPlace := statementPlace) (action := action) (how := how) (isLast := isLast) (faultKind := faultKind) (faultPlace := faultPlace) (a_text_bytes := a_text_bytes) (text_size := text_size) (text_bytes := text_bytes) (a_word := as_5) (word_n := (tn 13)) (word_f := (tb 13)) (k_this := 0) (w_this := rfl) (k_text := 1) (w_text := rfl) (k_text_bytes := 3) (w_text_bytes := rfl) (hw := hw) (sz := H.size)) (cwV 1 hts (gqV aw_5_76 aw_5_78 aw_0_33 aw_1_10 aw_5_79) rfl rfl rfl (by decide +kernel) ⟨Nat.le_of_ble_eq_true rfl, Nat.le_of_ble_eq_true rfl⟩) ⟨PX_blind (GSb_go (tn 13) (tb 13) as_5), va_recv hK hP (ci := 7) (q0 := 0) rfl rfl, PX_call (GSb_go (tn 13) (tb 13) as_5) hK hG hS hP hD (A_all hD hA hS.1) hT_5⟩ rfl rfl hl.1 rfl (lv_room (Nat.le_of_ble_eq_true rfl)) dX5_readOption_85 ⟨Nat.le_of_ble_eq_true rfl, Nat.le_of_ble_eq_true rfl⟩) hS (fun q _ h => (A_all hD hA hS.1) q h) (A_all hD hA hS.1) (fun r_14 u_14 t_14 H_14 L_14 ht_14 hvm_14 hw_14 hB_14 hz_14 hk_14 hS => ?_)
          rw [ht_14] at hB_14
          have hP : va_P (dC, dI) vwCl [(a_this, .inr (7, [.ref a_text, .ref a_operands, .ref a_told, .int wordKind, .int wordPlace, .int wordEnd, .int number, .int statementPlace, .int action, .int how, .int (b2i isLast), .int faultKind, .int faultPlace])), (a_text, .inr (12, [.ref a_text_bytes, .int text_size])), (a_told, .inr (10, [.int told_order, .int told_runWay, .int told_memory, .int told_mergeWay, .int told_ways])), (a_text_bytes, .inl (g 0, 160, .inl text_bytes))] H_14 := hB_14
          obtain ⟨b_14, rfl, hw⟩ := hw_14
          have JN96 : ∀ (sk0_15 : Bool) (H : Heap) (locs : List Loc), (wj_X5_readOption_96 wordEnd number faultKind faultPlace text_size told_order told_mergeWay told_ways text_bytes Q) sk0_15 → va_P (dC, dI) vwCl [(a_this, .inr (7, [.ref a_text, .ref a_operands, .ref a_told, .int wordKind, .int wordPlace, .int wordEnd, .int number, .int statementPlace, .int action, .int how, .int (b2i isLast), .int faultKind, .int faultPlace])), (a_text, .inr (12, [.ref a_text_bytes, .int text_size])), (a_told, .inr (10, [.int told_order, .int told_runWay, .int told_memory, .int told_mergeWay, .int told_ways])), (a_text_bytes, .inl (g 0, 160, .inl text_bytes))] H → va_D A [(a_this, .inr (7, [.ref a_text, .ref a_operands, .ref a_told, .int wordKind, .int wordPlace, .int wordEnd, .int number, .int statementPlace, .int action, .int how, .int (b2i isLast), .int faultKind, .int faultPlace])), (a_text, .inr (12, [.ref a_text_bytes, .int text_size])), (a_told, .inr (10, [.int told_order, .int told_runWay, .int told_memory, .int told_mergeWay, .int told_ways])), (a_text_bytes, .inl (g 0, 160, .inl text_bytes))] → va_S A s.heap H locs → ∀ (ls : Array Slot), lv_has ls 2 [(0, .ref a_this)] → W p l e (headSpec wqX5_readOption ({ frames := 11, cells := 0, slots := 0, locals := 142 })).room s m ([.ref a_this] : List Value).toArray below meth c H locs 0 0 QM (F0 m 96 ls [.int (b2i sk0_15), .ref a_told]) := by
            intro sk0_15 H locs hw hP hD hS ls hl
            refine va_putN (D := (dC, dI)) (ci := 10) (v := .int (b2i sk0_15)) (ty := .int) (C := RX8) (T := TX8) (N := 5) hx hb hts hiX8 tyX8 tyX8_ok nmX8 hown hK hP hD hS 2 rfl rfl 1 (by decide) (nf_11 hG) (fun _ h9 => h9) rfl (by decide +kernel) rfl rfl (Nat.le_of_ble_eq_true rfl) dX5_readOption_96 (fun H_16 L_17 hP hD hS => ?_)
            have hP : va_P (dC, dI) vwCl [(a_this, .inr (7, [.ref a_text, .ref a_operands, .ref a_told, .int wordKind, .int wordPlace, .int wordEnd, .int number, .int statementPlace, .int action, .int how, .int (b2i isLast), .int faultKind, .int faultPlace])), (a_text, .inr (12, [.ref a_text_bytes, .int text_size])), (a_told, .inr (10, [.int told_order, .int (b2i sk0_15), .int told_memory, .int told_mergeWay, .int told_ways])), (a_text_bytes, .inl (g 0, 160, .inl text_bytes))] H_16 := hP
            have hD : va_D A [(a_this, .inr (7, [.ref a_text, .ref a_operands, .ref a_told, .int wordKind, .int wordPlace, .int wordEnd, .int number, .int statementPlace, .int action, .int how, .int (b2i isLast), .int faultKind, .int faultPlace])), (a_text, .inr (12, [.ref a_text_bytes, .int text_size])), (a_told, .inr (10, [.int told_order, .int (b2i sk0_15), .int told_memory, .int told_mergeWay, .int told_ways])), (a_text_bytes, .inl (g 0, 160, .inl text_bytes))] := hD
            refine lv_aload_n hx hb dX5_readOption_99 rfl (lv_at hl 0 rfl) ?_
            refine lv_iconst (v := 1) hx hb dX5_readOption_100 (by decide) ?_
            refine lv_bipush (v := 50) hx hb dX5_readOption_101 (by decide) ?_
            have hPc := hP.sub (ws' := [(a_this, .inr (7, [.ref a_text, .ref a_operands, .ref a_told, .int wordKind, .int wordPlace, .int wordEnd, .int number, .int statementPlace, .int action, .int how, .int (b2i isLast), .int faultKind, .int faultPlace])), (a_text, .inr (12, [.ref a_text_bytes, .int text_size])), (a_text_bytes, .inl (g 0, 160, .inl text_bytes))]) [0, 1, 3] rfl
            have hDc := hD.sub (ws' := [(a_this, .inr (7, [.ref a_text, .ref a_operands, .ref a_told, .int wordKind, .int wordPlace, .int wordEnd, .int number, .int statementPlace, .int action, .int how, .int (b2i isLast), .int faultKind, .int faultPlace])), (a_text, .inr (12, [.ref a_text_bytes, .int text_size])), (a_text_bytes, .inl (g 0, 160, .inl text_bytes))]) [0, 1, 3] (by decide) rfl
            have hFc := va_free (wc := [(a_this, .inr (7, [.ref a_text, .ref a_operands, .ref a_told, .int wordKind, .int wordPlace, .int wordEnd, .int number, .int statementPlace, .int action, .int how, .int (b2i isLast), .int faultKind, .int faultPlace])), (a_text, .inr (12, [.ref a_text_bytes, .int text_size])), (a_text_bytes, .inl (g 0, 160, .inl text_bytes))]) hD hS hA [0, 1, 3] rfl
            refine va_calli (va_runV (As := [.int 1, .int 50]) (rest := []) ⟨hx, hb, hml, hown, hts⟩ (c_X5_readNumber l dC dI g (a_this := a_this) (a_text := a_text) (a_operands := a_operands) (a_told := a_told) (wordKind := wordKind) (wordPlace := wordPlace) (wordEnd := wordEnd) (number := number) (statementPlace := statementPlace) (action := action) (how := how) (isLast := isLast) (faultKind := faultKind) (faultPlace := faultPlace) (a_text_bytes := a_text_bytes) (text_size := text_size) (text_bytes := text_bytes) (least := 1) (most := 50) (hw := hw) (sz := H_16.size)) (cwV 2 hts (gqV aw_5_136 aw_5_138 aw_0_36 aw_1_10 aw_5_139) rfl rfl rfl (by decide +kernel) ⟨Nat.le_of_ble_eq_true rfl, Nat.le_of_ble_eq_true rfl⟩) ⟨PG_blind, va_recv hK hP (ci := 7) (q0 := 0) rfl rfl, PG_call hK hG hS hPc hDc hFc⟩ rfl rfl hl.1 rfl (lv_room (Nat.le_of_ble_eq_true rfl)) dX5_readOption_103 ⟨Nat.le_of_ble_eq_true rfl, Nat.le_of_ble_eq_true rfl⟩) hS (fun q _ h => hFc q h) hFc (fun r_18 u_18 t_18 H_18 L_18 ht_18 hvm_18 hw_18 hB_18 hz_18 hk_18 hS => ?_)
            obtain ⟨wordKind_19, wordPlace_20, wordEnd_21, number_22, faultKind_23, faultPlace_24, u_18⟩ := u_18
            obtain ⟨hP1, hD1⟩ := hB_18
            rw [ht_18] at hP1
            obtain ⟨hP, hD⟩ := va_join (wr := [(a_told, .inr (10, [.int told_order, .int (b2i sk0_15), .int told_memory, .int told_mergeWay, .int told_ways]))]) (w1 := [(a_this, .inr (7, [.ref a_text, .ref a_operands, .ref a_told, .int wordKind_19, .int wordPlace_20, .int wordEnd_21, .int number_22, .int statementPlace, .int action, .int how, .int (b2i isLast), .int faultKind_23, .int faultPlace_24])), (a_text, .inr (12, [.ref a_text_bytes, .int text_size])), (a_text_bytes, .inl (g 0, 160, .inl text_bytes))]) hP hD [0, 1, 3] [2] rfl rfl (by decide) (by decide) hk_18 hFc hP1 hD1
            have hP : va_P (dC, dI) vwCl [(a_told, .inr (10, [.int told_order, .int (b2i sk0_15), .int told_memory, .int told_mergeWay, .int told_ways])), (a_this, .inr (7, [.ref a_text, .ref a_operands, .ref a_told, .int wordKind_19, .int wordPlace_20, .int wordEnd_21, .int number_22, .int statementPlace, .int action, .int how, .int (b2i isLast), .int faultKind_23, .int faultPlace_24])), (a_text, .inr (12, [.ref a_text_bytes, .int text_size])), (a_text_bytes, .inl (g 0, 160, .inl text_bytes))] H_18 := hP
            have hD : va_D A [(a_told, .inr (10, [.int told_order, .int (b2i sk0_15), .int told_memory, .int told_mergeWay, .int told_ways])), (a_this, .inr (7, [.ref a_text, .ref a_operands, .ref a_told, .int wordKind_19, .int wordPlace_20, .int wordEnd_21, .int number_22, .int statementPlace, .int action, .int how, .int (b2i isLast), .int faultKind_23, .int faultPlace_24])), (a_text, .inr (12, [.ref a_text_bytes, .int text_size])), (a_text_bytes, .inl (g 0, 160, .inl text_bytes))] := hD
            obtain ⟨b_18, rfl, hw⟩ := hw_18
            refine lv_istore_n (lv' := [(1, .int (b2i b_18)), (0, .ref a_this)]) hx hb dX5_readOption_106 rfl hl (by decide) rfl (fun ls hl => ?_)
            refine lv_aload_n hx hb dX5_readOption_107 rfl (lv_at hl 1 rfl) ?_
            refine va_get (D := (dC, dI)) (ci := 7) (v := .ref a_told) (C := RX5) (T := TX5) (N := 13) hx hb hts hiX5 hown hK hP 1 rfl rfl 2 (by decide) hf25 (fun _ h9 => h9) rfl dX5_readOption_108 ?_
            refine lv_aload_n hx hb dX5_readOption_111 rfl (lv_at hl 1 rfl) ?_
            refine va_get (D := (dC, dI)) (ci := 7) (v := .int number_22) (C := RX5) (T := TX5) (N := 13) hx hb hts hiX5 hown hK hP 1 rfl rfl 6 (by decide) hf39 (fun _ h9 => h9) rfl dX5_readOption_112 ?_
            refine va_putN (D := (dC, dI)) (ci := 10) (v := .int number_22) (ty := .int) (C := RX8) (T := TX8) (N := 5) hx hb hts hiX8 tyX8 tyX8_ok nmX8 hown hK hP hD hS 0 rfl rfl 2 (by decide) (nf_15 hG) (fun _ h9 => h9) rfl (by decide +kernel) rfl rfl (Nat.le_of_ble_eq_true rfl) dX5_readOption_115 (fun H_25 L_26 hP hD hS => ?_)
            have hP : va_P (dC, dI) vwCl [(a_told, .inr (10, [.int told_order, .int (b2i sk0_15), .int number_22, .int told_mergeWay, .int told_ways])), (a_this, .inr (7, [.ref a_text, .ref a_operands, .ref a_told, .int wordKind_19, .int wordPlace_20, .int wordEnd_21, .int number_22, .int statementPlace, .int action, .int how, .int (b2i isLast), .int faultKind_23, .int faultPlace_24])), (a_text, .inr (12, [.ref a_text_bytes, .int text_size])), (a_text_bytes, .inl (g 0, 160, .inl text_bytes))] H_25 := hP
            have hD : va_D A [(a_told, .inr (10, [.int told_order, .int (b2i sk0_15), .int number_22, .int told_mergeWay, .int told_ways])), (a_this, .inr (7, [.ref a_text, .ref a_operands, .ref a_told, .int wordKind_19, .int wordPlace_20, .int wordEnd_21, .int number_22, .int statementPlace, .int action, .int how, .int (b2i isLast), .int faultKind_23, .int faultPlace_24])), (a_text, .inr (12, [.ref a_text_bytes, .int text_size])), (a_text_bytes, .inl (g 0, 160, .inl text_bytes))] := hD
            refine lv_iload_n hx hb dX5_readOption_118 rfl (lv_at hl 0 rfl) ?_
            subst hQM
            have hP9 := hP.sub (ws' := [(a_this, .inr (7, [.ref a_text, .ref a_operands, .ref a_told, .int wordKind_19, .int wordPlace_20, .int wordEnd_21, .int number_22, .int statementPlace, .int action, .int how, .int (b2i isLast), .int faultKind_23, .int faultPlace_24])), (a_text, .inr (12, [.ref a_text_bytes, .int text_size])), (a_told, .inr (10, [.int told_order, .int (b2i sk0_15), .int number_22, .int told_mergeWay, .int told_ways])), (a_text_bytes, .inl (g 0, 160, .inl text_bytes))]) [1, 2, 0, 3] rfl
            have hD9 := hD.sub (ws' := [(a_this, .inr (7, [.ref a_text, .ref a_operands, .ref a_told, .int wordKind_19, .int wordPlace_20, .int wordEnd_21, .int number_22, .int statementPlace, .int action, .int how, .int (b2i isLast), .int faultKind_23, .int faultPlace_24])), (a_text, .inr (12, [.ref a_text_bytes, .int text_size])), (a_told, .inr (10, [.int told_order, .int (b2i sk0_15), .int number_22, .int told_mergeWay, .int told_ways])), (a_text_bytes, .inl (g 0, 160, .inl text_bytes))]) [1, 2, 0, 3] (by decide) rfl
            exact W.zret (v := (b2i b_18)) hx hb hr (nar_b2i _) (fun t ht hW => ⟨⟨_, (wordKind_19, wordPlace_20, wordEnd_21, number_22, faultKind_23, faultPlace_24, told_order, (b2i sk0_15), number_22, told_mergeWay, told_ways, ()), rfl, ⟨b_18, rfl, hw⟩, ⟨P_at ht hP9, hD9⟩⟩, hS.F ht⟩) hS.2.2 dX5_readOption_119
          refine lv_if_eq (tgt := 95) hx hb dX5_readOption_88 (by decide) (fun c_27 => ?_) (fun c_27 => ?_)
          · have hw := hw.1 (b2i_0 c_27)
            refine lv_iconst (v := 1) hx hb dX5_readOption_95 (by decide) ?_
            exact JN96 true _ _ hw (hP.sub [0, 1, 2, 3] rfl) (hD.sub [0, 1, 2, 3] (by decide) rfl) hS _ (lv_sub hl [0] rfl)
          · have hw := hw.2 (b2i_1 c_27)
            refine lv_iconst (v := 0) hx hb dX5_readOption_91 (by decide) ?_
            refine lv_goto (tgt := 96) hx hb dX5_readOption_92 (by decide) ?_
            exact JN96 false _ _ hw (hP.sub [0, 1, 2, 3] rfl) (hD.sub [0, 1, 2, 3] (by decide) rfl) hS _ (lv_sub hl [0] rfl)
        refine lv_if_ne (tgt := 78) hx hb dX5_readOption_66 (by decide) (fun c_28 => ?_) (fun c_28 => ?_)
        · have hw := hw.2 (b2i_1 c_28)
          exact JN78  _ _ hw (hP.sub [0, 1, 2, 3] rfl) (hD.sub [0, 1, 2, 3] (by decide) rfl) hS _ (lv_sub hl [0] rfl)
        · have hw := hw.1 (b2i_0 c_28)
          refine lv_aload_n hx hb dX5_readOption_69 rfl (lv_at hl 0 rfl) ?_
          obtain ⟨as_6, hR_6, hT_6⟩ := GSb_of (sx_6 hG)
          refine va_ldcS hx hb hown hR_6 dX5_readOption_70 ?_
          refine va_calli (va_runV (As := [.ref as_6]) (rest := []) ⟨hx, hb, hml, hown, hts⟩ (c_X5_isWord l dC dI g (Wd := [(a_this, .inr (7, [.ref a_text, .ref a_operands, .ref a_told, .int wordKind, .int wordPlace, .int wordEnd, .int number, .int statementPlace, .int action, .int how, .int (b2i isLast), .int faultKind, .int faultPlace])), (a_text, .inr (12, [.ref a_text_bytes, .int text_size])), (a_told, .inr (10, [.int told_order, .int told_runWay, .int told_memory, .int told_mergeWay, .int told_ways])), (a_text_bytes, .inl (g 0, 160, .inl text_bytes))]) (a_this := a_this) (a_text := a_text) (a_operands := a_operands) (a_told := a_told) (wordKind := wordKind) (wordPlace := wordPlace) (wordEnd := wordEnd) (number := number) (statementPlace := statementPlace) (action := action) (how := how) (isLast := isLast) (faultKind := faultKind) (faultPlace := faultPlace) (a_text_bytes := a_text_bytes) (text_size := text_size) (text_bytes := text_bytes) (a_word := as_6) (word_n := (tn 14)) (word_f := (tb 14)) (k_this := 0) (w_this := rfl) (k_text := 1) (w_text := rfl) (k_text_bytes := 3) (w_text_bytes := rfl) (hw := hw) (sz := H_13.size)) (cwV 1 hts (gqV aw_5_76 aw_5_78 aw_0_33 aw_1_10 aw_5_79) rfl rfl rfl (by decide +kernel) ⟨Nat.le_of_ble_eq_true rfl, Nat.le_of_ble_eq_true rfl⟩) ⟨PX_blind (GSb_go (tn 14) (tb 14) as_6), va_recv hK hP (ci := 7) (q0 := 0) rfl rfl, PX_call (GSb_go (tn 14) (tb 14) as_6) hK hG hS hP hD (A_all hD hA hS.1) hT_6⟩ rfl rfl hl.1 rfl (lv_room (Nat.le_of_ble_eq_true rfl)) dX5_readOption_72 ⟨Nat.le_of_ble_eq_true rfl, Nat.le_of_ble_eq_true rfl⟩) hS (fun q _ h => (A_all hD hA hS.1) q h) (A_all hD hA hS.1) (fun r_29 u_29 t_29 H_29 L_29 ht_29 hvm_29 hw_29 hB_29 hz_29 hk_29 hS => ?_)
          rw [ht_29] at hB_29
          have hP : va_P (dC, dI) vwCl [(a_this, .inr (7, [.ref a_text, .ref a_operands, .ref a_told, .int wordKind, .int wordPlace, .int wordEnd, .int number, .int statementPlace, .int action, .int how, .int (b2i isLast), .int faultKind, .int faultPlace])), (a_text, .inr (12, [.ref a_text_bytes, .int text_size])), (a_told, .inr (10, [.int told_order, .int told_runWay, .int told_memory, .int told_mergeWay, .int told_ways])), (a_text_bytes, .inl (g 0, 160, .inl text_bytes))] H_29 := hB_29
          obtain ⟨b_29, rfl, hw⟩ := hw_29
          refine lv_if_eq (tgt := 120) hx hb dX5_readOption_75 (by decide) (fun c_30 => ?_) (fun c_30 => ?_)
          · have hw := hw.1 (b2i_0 c_30)
            refine lv_aload_n hx hb dX5_readOption_120 rfl (lv_at hl 0 rfl) ?_
            obtain ⟨as_7, hR_7, hT_7⟩ := GSb_of (sx_7 hG)
            refine va_ldcS hx hb hown hR_7 dX5_readOption_121 ?_
            refine va_calli (va_runV (As := [.ref as_7]) (rest := []) ⟨hx, hb, hml, hown, hts⟩ (c_X5_isWord l dC dI g (Wd := [(a_this, .inr (7, [.ref a_text, .ref a_operands, .ref a_told, .int wordKind, .int wordPlace, .int wordEnd, .int number, .int statementPlace, .int action, .int how, .int (b2i isLast), .int faultKind, .int faultPlace])), (a_text, .inr (12, [.ref a_text_bytes, .int text_size])), (a_told, .inr (10, [.int told_order, .int told_runWay, .int told_memory, .int told_mergeWay, .int told_ways])), (a_text_bytes, .inl (g 0, 160, .inl text_bytes))]) (a_this := a_this) (a_text := a_text) (a_operands := a_operands) (a_told := a_told) (wordKind := wordKind) (wordPlace := wordPlace) (wordEnd := wordEnd) (number := number) (statementPlace := statementPlace) (action := action) (how := how) (isLast := isLast) (faultKind := faultKind) (faultPlace := faultPlace) (a_text_bytes := a_text_bytes) (text_size := text_size) (text_bytes := text_bytes) (a_word := as_7) (word_n := (tn 15)) (word_f := (tb 15)) (k_this := 0) (w_this := rfl) (k_text := 1) (w_text := rfl) (k_text_bytes := 3) (w_text_bytes := rfl) (hw := hw) (sz := H_29.size)) (cwV 1 hts (gqV aw_5_76 aw_5_78 aw_0_33 aw_1_10 aw_5_79) rfl rfl rfl (by decide +kernel) ⟨Nat.le_of_ble_eq_true rfl, Nat.le_of_ble_eq_true rfl⟩) ⟨PX_blind (GSb_go (tn 15) (tb 15) as_7), va_recv hK hP (ci := 7) (q0 := 0) rfl rfl, PX_call (GSb_go (tn 15) (tb 15) as_7) hK hG hS hP hD (A_all hD hA hS.1) hT_7⟩ rfl rfl hl.1 rfl (lv_room (Nat.le_of_ble_eq_true rfl)) dX5_readOption_123 ⟨Nat.le_of_ble_eq_true rfl, Nat.le_of_ble_eq_true rfl⟩) hS (fun q _ h => (A_all hD hA hS.1) q h) (A_all hD hA hS.1) (fun r_31 u_31 t_31 H_31 L_31 ht_31 hvm_31 hw_31 hB_31 hz_31 hk_31 hS => ?_)
            rw [ht_31] at hB_31
            have hP : va_P (dC, dI) vwCl [(a_this, .inr (7, [.ref a_text, .ref a_operands, .ref a_told, .int wordKind, .int wordPlace, .int wordEnd, .int number, .int statementPlace, .int action, .int how, .int (b2i isLast), .int faultKind, .int faultPlace])), (a_text, .inr (12, [.ref a_text_bytes, .int text_size])), (a_told, .inr (10, [.int told_order, .int told_runWay, .int told_memory, .int told_mergeWay, .int told_ways])), (a_text_bytes, .inl (g 0, 160, .inl text_bytes))] H_31 := hB_31
            obtain ⟨b_31, rfl, hw⟩ := hw_31
            refine lv_if_eq (tgt := 139) hx hb dX5_readOption_126 (by decide) (fun c_32 => ?_) (fun c_32 => ?_)
            · have hw := hw.1 (b2i_0 c_32)
              refine lv_aload_n hx hb dX5_readOption_139 rfl (lv_at hl 0 rfl) ?_
              obtain ⟨as_8, hR_8, hT_8⟩ := GSb_of (sx_8 hG)
              refine va_ldcS hx hb hown hR_8 dX5_readOption_140 ?_
              refine va_calli (va_runV (As := [.ref as_8]) (rest := []) ⟨hx, hb, hml, hown, hts⟩ (c_X5_isWord l dC dI g (Wd := [(a_this, .inr (7, [.ref a_text, .ref a_operands, .ref a_told, .int wordKind, .int wordPlace, .int wordEnd, .int number, .int statementPlace, .int action, .int how, .int (b2i isLast), .int faultKind, .int faultPlace])), (a_text, .inr (12, [.ref a_text_bytes, .int text_size])), (a_told, .inr (10, [.int told_order, .int told_runWay, .int told_memory, .int told_mergeWay, .int told_ways])), (a_text_bytes, .inl (g 0, 160, .inl text_bytes))]) (a_this := a_this) (a_text := a_text) (a_operands := a_operands) (a_told := a_told) (wordKind := wordKind) (wordPlace := wordPlace) (wordEnd := wordEnd) (number := number) (statementPlace := statementPlace) (action := action) (how := how) (isLast := isLast) (faultKind := faultKind) (faultPlace := faultPlace) (a_text_bytes := a_text_bytes) (text_size := text_size) (text_bytes := text_bytes) (a_word := as_8) (word_n := (tn 16)) (word_f := (tb 16)) (k_this := 0) (w_this := rfl) (k_text := 1) (w_text := rfl) (k_text_bytes := 3) (w_text_bytes := rfl) (hw := hw) (sz := H_31.size)) (cwV 1 hts (gqV aw_5_76 aw_5_78 aw_0_33 aw_1_10 aw_5_79) rfl rfl rfl (by decide +kernel) ⟨Nat.le_of_ble_eq_true rfl, Nat.le_of_ble_eq_true rfl⟩) ⟨PX_blind (GSb_go (tn 16) (tb 16) as_8), va_recv hK hP (ci := 7) (q0 := 0) rfl rfl, PX_call (GSb_go (tn 16) (tb 16) as_8) hK hG hS hP hD (A_all hD hA hS.1) hT_8⟩ rfl rfl hl.1 rfl (lv_room (Nat.le_of_ble_eq_true rfl)) dX5_readOption_142 ⟨Nat.le_of_ble_eq_true rfl, Nat.le_of_ble_eq_true rfl⟩) hS (fun q _ h => (A_all hD hA hS.1) q h) (A_all hD hA hS.1) (fun r_33 u_33 t_33 H_33 L_33 ht_33 hvm_33 hw_33 hB_33 hz_33 hk_33 hS => ?_)
              rw [ht_33] at hB_33
              have hP : va_P (dC, dI) vwCl [(a_this, .inr (7, [.ref a_text, .ref a_operands, .ref a_told, .int wordKind, .int wordPlace, .int wordEnd, .int number, .int statementPlace, .int action, .int how, .int (b2i isLast), .int faultKind, .int faultPlace])), (a_text, .inr (12, [.ref a_text_bytes, .int text_size])), (a_told, .inr (10, [.int told_order, .int told_runWay, .int told_memory, .int told_mergeWay, .int told_ways])), (a_text_bytes, .inl (g 0, 160, .inl text_bytes))] H_33 := hB_33
              obtain ⟨b_33, rfl, hw⟩ := hw_33
              have JN157 : ∀  (H : Heap) (locs : List Loc), (wj_X5_readOption_157 wordKind wordPlace wordEnd number faultKind faultPlace text_size told_order told_runWay told_memory text_bytes Q)  → va_P (dC, dI) vwCl [(a_this, .inr (7, [.ref a_text, .ref a_operands, .ref a_told, .int wordKind, .int wordPlace, .int wordEnd, .int number, .int statementPlace, .int action, .int how, .int (b2i isLast), .int faultKind, .int faultPlace])), (a_text, .inr (12, [.ref a_text_bytes, .int text_size])), (a_told, .inr (10, [.int told_order, .int told_runWay, .int told_memory, .int told_mergeWay, .int told_ways])), (a_text_bytes, .inl (g 0, 160, .inl text_bytes))] H → va_D A [(a_this, .inr (7, [.ref a_text, .ref a_operands, .ref a_told, .int wordKind, .int wordPlace, .int wordEnd, .int number, .int statementPlace, .int action, .int how, .int (b2i isLast), .int faultKind, .int faultPlace])), (a_text, .inr (12, [.ref a_text_bytes, .int text_size])), (a_told, .inr (10, [.int told_order, .int told_runWay, .int told_memory, .int told_mergeWay, .int told_ways])), (a_text_bytes, .inl (g 0, 160, .inl text_bytes))] → va_S A s.heap H locs → ∀ (ls : Array Slot), lv_has ls 2 [(0, .ref a_this)] → W p l e (headSpec wqX5_readOption ({ frames := 11, cells := 0, slots := 0, locals := 142 })).room s m ([.ref a_this] : List Value).toArray below meth c H locs 0 0 QM (F0 m 157 ls []) := by
                intro  H locs hw hP hD hS ls hl
                refine lv_aload_n hx hb dX5_readOption_157 rfl (lv_at hl 0 rfl) ?_
                refine va_get (D := (dC, dI)) (ci := 7) (v := .ref a_told) (C := RX5) (T := TX5) (N := 13) hx hb hts hiX5 hown hK hP 0 rfl rfl 2 (by decide) hf25 (fun _ h9 => h9) rfl dX5_readOption_158 ?_
                refine lv_aload_n hx hb dX5_readOption_161 rfl (lv_at hl 0 rfl) ?_
                obtain ⟨as_9, hR_9, hT_9⟩ := GSb_of (sx_9 hG)
                refine va_ldcS hx hb hown hR_9 dX5_readOption_162 ?_
                refine va_calli (va_runV (As := [.ref as_9]) (rest := [.ref a_told]) ⟨hx, hb, hml, hown, hts⟩ (c_X5_isWord l dC dI g (Wd := [(a_this, .inr (7, [.ref a_text, .ref a_operands, .ref a_told, .int wordKind, .int wordPlace, .int wordEnd, .int number, .int statementPlace, .int action, .int how, .int (b2i isLast), .int faultKind, .int faultPlace])), (a_text, .inr (12, [.ref a_text_bytes, .int text_size])), (a_told, .inr (10, [.int told_order, .int told_runWay, .int told_memory, .int told_mergeWay, .int told_ways])), (a_text_bytes, .inl (g 0, 160, .inl text_bytes))]) (a_this := a_this) (a_text := a_text) (a_operands := a_operands) (a_told := a_told) (wordKind := wordKind) (wordPlace := wordPlace) (wordEnd := wordEnd) (number := number) (statementPlace := statementPlace) (action := action) (how := how) (isLast := isLast) (faultKind := faultKind) (faultPlace := faultPlace) (a_text_bytes := a_text_bytes) (text_size := text_size) (text_bytes := text_bytes) (a_word := as_9) (word_n := (tn 17)) (word_f := (tb 17)) (k_this := 0) (w_this := rfl) (k_text := 1) (w_text := rfl) (k_text_bytes := 3) (w_text_bytes := rfl) (hw := hw) (sz := H.size)) (cwV 1 hts (gqV aw_5_76 aw_5_78 aw_0_33 aw_1_10 aw_5_79) rfl rfl rfl (by decide +kernel) ⟨Nat.le_of_ble_eq_true rfl, Nat.le_of_ble_eq_true rfl⟩) ⟨PX_blind (GSb_go (tn 17) (tb 17) as_9), va_recv hK hP (ci := 7) (q0 := 0) rfl rfl, PX_call (GSb_go (tn 17) (tb 17) as_9) hK hG hS hP hD (A_all hD hA hS.1) hT_9⟩ rfl rfl hl.1 rfl (lv_room (Nat.le_of_ble_eq_true rfl)) dX5_readOption_164 ⟨Nat.le_of_ble_eq_true rfl, Nat.le_of_ble_eq_true rfl⟩) hS (fun q _ h => (A_all hD hA hS.1) q h) (A_all hD hA hS.1) (fun r_34 u_34 t_34 H_34 L_34 ht_34 hvm_34 hw_34 hB_34 hz_34 hk_34 hS => ?_)
                rw [ht_34] at hB_34
                have hP : va_P (dC, dI) vwCl [(a_this, .inr (7, [.ref a_text, .ref a_operands, .ref a_told, .int wordKind, .int wordPlace, .int wordEnd, .int number, .int statementPlace, .int action, .int how, .int (b2i isLast), .int faultKind, .int faultPlace])), (a_text, .inr (12, [.ref a_text_bytes, .int text_size])), (a_told, .inr (10, [.int told_order, .int told_runWay, .int told_memory, .int told_mergeWay, .int told_ways])), (a_text_bytes, .inl (g 0, 160, .inl text_bytes))] H_34 := hB_34
                obtain ⟨b_34, rfl, hw⟩ := hw_34
                have JN175 : ∀ (sk0_35 : Int32) (H : Heap) (locs : List Loc), (wj_X5_readOption_175 wordEnd number faultKind faultPlace text_size told_order told_runWay told_memory text_bytes Q) sk0_35 → va_P (dC, dI) vwCl [(a_this, .inr (7, [.ref a_text, .ref a_operands, .ref a_told, .int wordKind, .int wordPlace, .int wordEnd, .int number, .int statementPlace, .int action, .int how, .int (b2i isLast), .int faultKind, .int faultPlace])), (a_text, .inr (12, [.ref a_text_bytes, .int text_size])), (a_told, .inr (10, [.int told_order, .int told_runWay, .int told_memory, .int told_mergeWay, .int told_ways])), (a_text_bytes, .inl (g 0, 160, .inl text_bytes))] H → va_D A [(a_this, .inr (7, [.ref a_text, .ref a_operands, .ref a_told, .int wordKind, .int wordPlace, .int wordEnd, .int number, .int statementPlace, .int action, .int how, .int (b2i isLast), .int faultKind, .int faultPlace])), (a_text, .inr (12, [.ref a_text_bytes, .int text_size])), (a_told, .inr (10, [.int told_order, .int told_runWay, .int told_memory, .int told_mergeWay, .int told_ways])), (a_text_bytes, .inl (g 0, 160, .inl text_bytes))] → va_S A s.heap H locs → ∀ (ls : Array Slot), lv_has ls 2 [(0, .ref a_this)] → W p l e (headSpec wqX5_readOption ({ frames := 11, cells := 0, slots := 0, locals := 142 })).room s m ([.ref a_this] : List Value).toArray below meth c H locs 0 0 QM (F0 m 175 ls [.int sk0_35, .ref a_told]) := by
                  intro sk0_35 H locs hw hP hD hS ls hl
                  refine va_putN (D := (dC, dI)) (ci := 10) (v := .int sk0_35) (ty := .int) (C := RX8) (T := TX8) (N := 5) hx hb hts hiX8 tyX8 tyX8_ok nmX8 hown hK hP hD hS 2 rfl rfl 3 (by decide) (nf_19 hG) (fun _ h9 => h9) rfl (by decide +kernel) rfl rfl (Nat.le_of_ble_eq_true rfl) dX5_readOption_175 (fun H_36 L_37 hP hD hS => ?_)
                  have hP : va_P (dC, dI) vwCl [(a_this, .inr (7, [.ref a_text, .ref a_operands, .ref a_told, .int wordKind, .int wordPlace, .int wordEnd, .int number, .int statementPlace, .int action, .int how, .int (b2i isLast), .int faultKind, .int faultPlace])), (a_text, .inr (12, [.ref a_text_bytes, .int text_size])), (a_told, .inr (10, [.int told_order, .int told_runWay, .int told_memory, .int sk0_35, .int told_ways])), (a_text_bytes, .inl (g 0, 160, .inl text_bytes))] H_36 := hP
                  have hD : va_D A [(a_this, .inr (7, [.ref a_text, .ref a_operands, .ref a_told, .int wordKind, .int wordPlace, .int wordEnd, .int number, .int statementPlace, .int action, .int how, .int (b2i isLast), .int faultKind, .int faultPlace])), (a_text, .inr (12, [.ref a_text_bytes, .int text_size])), (a_told, .inr (10, [.int told_order, .int told_runWay, .int told_memory, .int sk0_35, .int told_ways])), (a_text_bytes, .inl (g 0, 160, .inl text_bytes))] := hD
                  refine lv_aload_n hx hb dX5_readOption_178 rfl (lv_at hl 0 rfl) ?_
                  refine lv_iconst (v := 2) hx hb dX5_readOption_179 (by decide) ?_
                  refine lv_bipush (v := 6) hx hb dX5_readOption_180 (by decide) ?_
                  have hPc := hP.sub (ws' := [(a_this, .inr (7, [.ref a_text, .ref a_operands, .ref a_told, .int wordKind, .int wordPlace, .int wordEnd, .int number, .int statementPlace, .int action, .int how, .int (b2i isLast), .int faultKind, .int faultPlace])), (a_text, .inr (12, [.ref a_text_bytes, .int text_size])), (a_text_bytes, .inl (g 0, 160, .inl text_bytes))]) [0, 1, 3] rfl
                  have hDc := hD.sub (ws' := [(a_this, .inr (7, [.ref a_text, .ref a_operands, .ref a_told, .int wordKind, .int wordPlace, .int wordEnd, .int number, .int statementPlace, .int action, .int how, .int (b2i isLast), .int faultKind, .int faultPlace])), (a_text, .inr (12, [.ref a_text_bytes, .int text_size])), (a_text_bytes, .inl (g 0, 160, .inl text_bytes))]) [0, 1, 3] (by decide) rfl
                  have hFc := va_free (wc := [(a_this, .inr (7, [.ref a_text, .ref a_operands, .ref a_told, .int wordKind, .int wordPlace, .int wordEnd, .int number, .int statementPlace, .int action, .int how, .int (b2i isLast), .int faultKind, .int faultPlace])), (a_text, .inr (12, [.ref a_text_bytes, .int text_size])), (a_text_bytes, .inl (g 0, 160, .inl text_bytes))]) hD hS hA [0, 1, 3] rfl
                  refine va_calli (va_runV (As := [.int 2, .int 6]) (rest := []) ⟨hx, hb, hml, hown, hts⟩ (c_X5_readNumber l dC dI g (a_this := a_this) (a_text := a_text) (a_operands := a_operands) (a_told := a_told) (wordKind := wordKind) (wordPlace := wordPlace) (wordEnd := wordEnd) (number := number) (statementPlace := statementPlace) (action := action) (how := how) (isLast := isLast) (faultKind := faultKind) (faultPlace := faultPlace) (a_text_bytes := a_text_bytes) (text_size := text_size) (text_bytes := text_bytes) (least := 2) (most := 6) (hw := hw) (sz := H_36.size)) (cwV 2 hts (gqV aw_5_136 aw_5_138 aw_0_36 aw_1_10 aw_5_139) rfl rfl rfl (by decide +kernel) ⟨Nat.le_of_ble_eq_true rfl, Nat.le_of_ble_eq_true rfl⟩) ⟨PG_blind, va_recv hK hP (ci := 7) (q0 := 0) rfl rfl, PG_call hK hG hS hPc hDc hFc⟩ rfl rfl hl.1 rfl (lv_room (Nat.le_of_ble_eq_true rfl)) dX5_readOption_182 ⟨Nat.le_of_ble_eq_true rfl, Nat.le_of_ble_eq_true rfl⟩) hS (fun q _ h => hFc q h) hFc (fun r_38 u_38 t_38 H_38 L_38 ht_38 hvm_38 hw_38 hB_38 hz_38 hk_38 hS => ?_)
                  obtain ⟨wordKind_39, wordPlace_40, wordEnd_41, number_42, faultKind_43, faultPlace_44, u_38⟩ := u_38
                  obtain ⟨hP1, hD1⟩ := hB_38
                  rw [ht_38] at hP1
                  obtain ⟨hP, hD⟩ := va_join (wr := [(a_told, .inr (10, [.int told_order, .int told_runWay, .int told_memory, .int sk0_35, .int told_ways]))]) (w1 := [(a_this, .inr (7, [.ref a_text, .ref a_operands, .ref a_told, .int wordKind_39, .int wordPlace_40, .int wordEnd_41, .int number_42, .int statementPlace, .int action, .int how, .int (b2i isLast), .int faultKind_43, .int faultPlace_44])), (a_text, .inr (12, [.ref a_text_bytes, .int text_size])), (a_text_bytes, .inl (g 0, 160, .inl text_bytes))]) hP hD [0, 1, 3] [2] rfl rfl (by decide) (by decide) hk_38 hFc hP1 hD1
                  have hP : va_P (dC, dI) vwCl [(a_told, .inr (10, [.int told_order, .int told_runWay, .int told_memory, .int sk0_35, .int told_ways])), (a_this, .inr (7, [.ref a_text, .ref a_operands, .ref a_told, .int wordKind_39, .int wordPlace_40, .int wordEnd_41, .int number_42, .int statementPlace, .int action, .int how, .int (b2i isLast), .int faultKind_43, .int faultPlace_44])), (a_text, .inr (12, [.ref a_text_bytes, .int text_size])), (a_text_bytes, .inl (g 0, 160, .inl text_bytes))] H_38 := hP
                  have hD : va_D A [(a_told, .inr (10, [.int told_order, .int told_runWay, .int told_memory, .int sk0_35, .int told_ways])), (a_this, .inr (7, [.ref a_text, .ref a_operands, .ref a_told, .int wordKind_39, .int wordPlace_40, .int wordEnd_41, .int number_42, .int statementPlace, .int action, .int how, .int (b2i isLast), .int faultKind_43, .int faultPlace_44])), (a_text, .inr (12, [.ref a_text_bytes, .int text_size])), (a_text_bytes, .inl (g 0, 160, .inl text_bytes))] := hD
                  obtain ⟨b_38, rfl, hw⟩ := hw_38
                  refine lv_istore_n (lv' := [(1, .int (b2i b_38)), (0, .ref a_this)]) hx hb dX5_readOption_185 rfl hl (by decide) rfl (fun ls hl => ?_)
                  refine lv_aload_n hx hb dX5_readOption_186 rfl (lv_at hl 1 rfl) ?_
                  refine va_get (D := (dC, dI)) (ci := 7) (v := .ref a_told) (C := RX5) (T := TX5) (N := 13) hx hb hts hiX5 hown hK hP 1 rfl rfl 2 (by decide) hf25 (fun _ h9 => h9) rfl dX5_readOption_187 ?_
                  refine lv_aload_n hx hb dX5_readOption_190 rfl (lv_at hl 1 rfl) ?_
                  refine va_get (D := (dC, dI)) (ci := 7) (v := .int number_42) (C := RX5) (T := TX5) (N := 13) hx hb hts hiX5 hown hK hP 1 rfl rfl 6 (by decide) hf39 (fun _ h9 => h9) rfl dX5_readOption_191 ?_
                  refine va_putN (D := (dC, dI)) (ci := 10) (v := .int number_42) (ty := .int) (C := RX8) (T := TX8) (N := 5) hx hb hts hiX8 tyX8 tyX8_ok nmX8 hown hK hP hD hS 0 rfl rfl 4 (by decide) (nf_23 hG) (fun _ h9 => h9) rfl (by decide +kernel) rfl rfl (Nat.le_of_ble_eq_true rfl) dX5_readOption_194 (fun H_45 L_46 hP hD hS => ?_)
                  have hP : va_P (dC, dI) vwCl [(a_told, .inr (10, [.int told_order, .int told_runWay, .int told_memory, .int sk0_35, .int number_42])), (a_this, .inr (7, [.ref a_text, .ref a_operands, .ref a_told, .int wordKind_39, .int wordPlace_40, .int wordEnd_41, .int number_42, .int statementPlace, .int action, .int how, .int (b2i isLast), .int faultKind_43, .int faultPlace_44])), (a_text, .inr (12, [.ref a_text_bytes, .int text_size])), (a_text_bytes, .inl (g 0, 160, .inl text_bytes))] H_45 := hP
                  have hD : va_D A [(a_told, .inr (10, [.int told_order, .int told_runWay, .int told_memory, .int sk0_35, .int number_42])), (a_this, .inr (7, [.ref a_text, .ref a_operands, .ref a_told, .int wordKind_39, .int wordPlace_40, .int wordEnd_41, .int number_42, .int statementPlace, .int action, .int how, .int (b2i isLast), .int faultKind_43, .int faultPlace_44])), (a_text, .inr (12, [.ref a_text_bytes, .int text_size])), (a_text_bytes, .inl (g 0, 160, .inl text_bytes))] := hD
                  refine lv_iload_n hx hb dX5_readOption_197 rfl (lv_at hl 0 rfl) ?_
                  subst hQM
                  have hP9 := hP.sub (ws' := [(a_this, .inr (7, [.ref a_text, .ref a_operands, .ref a_told, .int wordKind_39, .int wordPlace_40, .int wordEnd_41, .int number_42, .int statementPlace, .int action, .int how, .int (b2i isLast), .int faultKind_43, .int faultPlace_44])), (a_text, .inr (12, [.ref a_text_bytes, .int text_size])), (a_told, .inr (10, [.int told_order, .int told_runWay, .int told_memory, .int sk0_35, .int number_42])), (a_text_bytes, .inl (g 0, 160, .inl text_bytes))]) [1, 2, 0, 3] rfl
                  have hD9 := hD.sub (ws' := [(a_this, .inr (7, [.ref a_text, .ref a_operands, .ref a_told, .int wordKind_39, .int wordPlace_40, .int wordEnd_41, .int number_42, .int statementPlace, .int action, .int how, .int (b2i isLast), .int faultKind_43, .int faultPlace_44])), (a_text, .inr (12, [.ref a_text_bytes, .int text_size])), (a_told, .inr (10, [.int told_order, .int told_runWay, .int told_memory, .int sk0_35, .int number_42])), (a_text_bytes, .inl (g 0, 160, .inl text_bytes))]) [1, 2, 0, 3] (by decide) rfl
                  exact W.zret (v := (b2i b_38)) hx hb hr (nar_b2i _) (fun t ht hW => ⟨⟨_, (wordKind_39, wordPlace_40, wordEnd_41, number_42, faultKind_43, faultPlace_44, told_order, told_runWay, told_memory, sk0_35, number_42, ()), rfl, ⟨b_38, rfl, hw⟩, ⟨P_at ht hP9, hD9⟩⟩, hS.F ht⟩) hS.2.2 dX5_readOption_198
                refine lv_if_eq (tgt := 174) hx hb dX5_readOption_167 (by decide) (fun c_47 => ?_) (fun c_47 => ?_)
                · have hw := hw.1 (b2i_0 c_47)
                  refine lv_iconst (v := 0) hx hb dX5_readOption_174 (by decide) ?_
                  exact JN175 0 _ _ hw (hP.sub [0, 1, 2, 3] rfl) (hD.sub [0, 1, 2, 3] (by decide) rfl) hS _ (lv_sub hl [0] rfl)
                · have hw := hw.2 (b2i_1 c_47)
                  refine lv_iconst (v := 2) hx hb dX5_readOption_170 (by decide) ?_
                  refine lv_goto (tgt := 175) hx hb dX5_readOption_171 (by decide) ?_
                  exact JN175 2 _ _ hw (hP.sub [0, 1, 2, 3] rfl) (hD.sub [0, 1, 2, 3] (by decide) rfl) hS _ (lv_sub hl [0] rfl)
              refine lv_if_ne (tgt := 157) hx hb dX5_readOption_145 (by decide) (fun c_48 => ?_) (fun c_48 => ?_)
              · have hw := hw.2 (b2i_1 c_48)
                exact JN157  _ _ hw (hP.sub [0, 1, 2, 3] rfl) (hD.sub [0, 1, 2, 3] (by decide) rfl) hS _ (lv_sub hl [0] rfl)
              · have hw := hw.1 (b2i_0 c_48)
                refine lv_aload_n hx hb dX5_readOption_148 rfl (lv_at hl 0 rfl) ?_
                obtain ⟨as_9, hR_9, hT_9⟩ := GSb_of (sx_9 hG)
                refine va_ldcS hx hb hown hR_9 dX5_readOption_149 ?_
                refine va_calli (va_runV (As := [.ref as_9]) (rest := []) ⟨hx, hb, hml, hown, hts⟩ (c_X5_isWord l dC dI g (Wd := [(a_this, .inr (7, [.ref a_text, .ref a_operands, .ref a_told, .int wordKind, .int wordPlace, .int wordEnd, .int number, .int statementPlace, .int action, .int how, .int (b2i isLast), .int faultKind, .int faultPlace])), (a_text, .inr (12, [.ref a_text_bytes, .int text_size])), (a_told, .inr (10, [.int told_order, .int told_runWay, .int told_memory, .int told_mergeWay, .int told_ways])), (a_text_bytes, .inl (g 0, 160, .inl text_bytes))]) (a_this := a_this) (a_text := a_text) (a_operands := a_operands) (a_told := a_told) (wordKind := wordKind) (wordPlace := wordPlace) (wordEnd := wordEnd) (number := number) (statementPlace := statementPlace) (action := action) (how := how) (isLast := isLast) (faultKind := faultKind) (faultPlace := faultPlace) (a_text_bytes := a_text_bytes) (text_size := text_size) (text_bytes := text_bytes) (a_word := as_9) (word_n := (tn 17)) (word_f := (tb 17)) (k_this := 0) (w_this := rfl) (k_text := 1) (w_text := rfl) (k_text_bytes := 3) (w_text_bytes := rfl) (hw := hw) (sz := H_33.size)) (cwV 1 hts (gqV aw_5_76 aw_5_78 aw_0_33 aw_1_10 aw_5_79) rfl rfl rfl (by decide +kernel) ⟨Nat.le_of_ble_eq_true rfl, Nat.le_of_ble_eq_true rfl⟩) ⟨PX_blind (GSb_go (tn 17) (tb 17) as_9), va_recv hK hP (ci := 7) (q0 := 0) rfl rfl, PX_call (GSb_go (tn 17) (tb 17) as_9) hK hG hS hP hD (A_all hD hA hS.1) hT_9⟩ rfl rfl hl.1 rfl (lv_room (Nat.le_of_ble_eq_true rfl)) dX5_readOption_151 ⟨Nat.le_of_ble_eq_true rfl, Nat.le_of_ble_eq_true rfl⟩) hS (fun q _ h => (A_all hD hA hS.1) q h) (A_all hD hA hS.1) (fun r_49 u_49 t_49 H_49 L_49 ht_49 hvm_49 hw_49 hB_49 hz_49 hk_49 hS => ?_)
                rw [ht_49] at hB_49
                have hP : va_P (dC, dI) vwCl [(a_this, .inr (7, [.ref a_text, .ref a_operands, .ref a_told, .int wordKind, .int wordPlace, .int wordEnd, .int number, .int statementPlace, .int action, .int how, .int (b2i isLast), .int faultKind, .int faultPlace])), (a_text, .inr (12, [.ref a_text_bytes, .int text_size])), (a_told, .inr (10, [.int told_order, .int told_runWay, .int told_memory, .int told_mergeWay, .int told_ways])), (a_text_bytes, .inl (g 0, 160, .inl text_bytes))] H_49 := hB_49
                obtain ⟨b_49, rfl, hw⟩ := hw_49
                refine lv_if_eq (tgt := 199) hx hb dX5_readOption_154 (by decide) (fun c_50 => ?_) (fun c_50 => ?_)
                · have hw := hw.1 (b2i_0 c_50)
                  refine lv_aload_n hx hb dX5_readOption_199 rfl (lv_at hl 0 rfl) ?_
                  refine lv_iconst (v := 1) hx hb dX5_readOption_200 (by decide) ?_
                  have hPc := hP.sub (ws' := [(a_this, .inr (7, [.ref a_text, .ref a_operands, .ref a_told, .int wordKind, .int wordPlace, .int wordEnd, .int number, .int statementPlace, .int action, .int how, .int (b2i isLast), .int faultKind, .int faultPlace]))]) [0] rfl
                  have hDc := hD.sub (ws' := [(a_this, .inr (7, [.ref a_text, .ref a_operands, .ref a_told, .int wordKind, .int wordPlace, .int wordEnd, .int number, .int statementPlace, .int action, .int how, .int (b2i isLast), .int faultKind, .int faultPlace]))]) [0] (by decide) rfl
                  have hFc := va_free (wc := [(a_this, .inr (7, [.ref a_text, .ref a_operands, .ref a_told, .int wordKind, .int wordPlace, .int wordEnd, .int number, .int statementPlace, .int action, .int how, .int (b2i isLast), .int faultKind, .int faultPlace]))]) hD hS hA [0] rfl
                  refine va_calli (va_runV (As := [.int 1]) (rest := []) ⟨hx, hb, hml, hown, hts⟩ (c_X5_refuse l dC dI g (a_this := a_this) (a_text := a_text) (a_operands := a_operands) (a_told := a_told) (wordKind := wordKind) (wordPlace := wordPlace) (wordEnd := wordEnd) (number := number) (statementPlace := statementPlace) (action := action) (how := how) (isLast := isLast) (faultKind := faultKind) (faultPlace := faultPlace) (kind := 1) (hw := hw) (sz := H_49.size)) (cwV 1 hts (gqV aw_5_140 aw_5_142 aw_0_37 aw_1_10 aw_5_143) rfl rfl rfl (by decide +kernel) ⟨Nat.le_of_ble_eq_true rfl, Nat.le_of_ble_eq_true rfl⟩) ⟨PG_blind, va_recv hK hP (ci := 7) (q0 := 0) rfl rfl, PG_call hK hG hS hPc hDc hFc⟩ rfl rfl hl.1 rfl (lv_room (Nat.le_of_ble_eq_true rfl)) dX5_readOption_201 ⟨Nat.le_of_ble_eq_true rfl, Nat.le_of_ble_eq_true rfl⟩) hS (fun q _ h => hFc q h) hFc (fun r_51 u_51 t_51 H_51 L_51 ht_51 hvm_51 hw_51 hB_51 hz_51 hk_51 hS => ?_)
                  obtain ⟨faultKind_52, faultPlace_53, u_51⟩ := u_51
                  obtain ⟨hP1, hD1⟩ := hB_51
                  rw [ht_51] at hP1
                  obtain ⟨hP, hD⟩ := va_join (wr := [(a_text, .inr (12, [.ref a_text_bytes, .int text_size])), (a_told, .inr (10, [.int told_order, .int told_runWay, .int told_memory, .int told_mergeWay, .int told_ways])), (a_text_bytes, .inl (g 0, 160, .inl text_bytes))]) (w1 := [(a_this, .inr (7, [.ref a_text, .ref a_operands, .ref a_told, .int wordKind, .int wordPlace, .int wordEnd, .int number, .int statementPlace, .int action, .int how, .int (b2i isLast), .int faultKind_52, .int faultPlace_53]))]) hP hD [0] [1, 2, 3] rfl rfl (by decide) (by decide) hk_51 hFc hP1 hD1
                  have hP : va_P (dC, dI) vwCl [(a_text, .inr (12, [.ref a_text_bytes, .int text_size])), (a_told, .inr (10, [.int told_order, .int told_runWay, .int told_memory, .int told_mergeWay, .int told_ways])), (a_text_bytes, .inl (g 0, 160, .inl text_bytes)), (a_this, .inr (7, [.ref a_text, .ref a_operands, .ref a_told, .int wordKind, .int wordPlace, .int wordEnd, .int number, .int statementPlace, .int action, .int how, .int (b2i isLast), .int faultKind_52, .int faultPlace_53]))] H_51 := hP
                  have hD : va_D A [(a_text, .inr (12, [.ref a_text_bytes, .int text_size])), (a_told, .inr (10, [.int told_order, .int told_runWay, .int told_memory, .int told_mergeWay, .int told_ways])), (a_text_bytes, .inl (g 0, 160, .inl text_bytes)), (a_this, .inr (7, [.ref a_text, .ref a_operands, .ref a_told, .int wordKind, .int wordPlace, .int wordEnd, .int number, .int statementPlace, .int action, .int how, .int (b2i isLast), .int faultKind_52, .int faultPlace_53]))] := hD
                  obtain ⟨b_51, rfl, hw⟩ := hw_51
                  subst hQM
                  have hP9 := hP.sub (ws' := [(a_this, .inr (7, [.ref a_text, .ref a_operands, .ref a_told, .int wordKind, .int wordPlace, .int wordEnd, .int number, .int statementPlace, .int action, .int how, .int (b2i isLast), .int faultKind_52, .int faultPlace_53])), (a_text, .inr (12, [.ref a_text_bytes, .int text_size])), (a_told, .inr (10, [.int told_order, .int told_runWay, .int told_memory, .int told_mergeWay, .int told_ways])), (a_text_bytes, .inl (g 0, 160, .inl text_bytes))]) [3, 0, 1, 2] rfl
                  have hD9 := hD.sub (ws' := [(a_this, .inr (7, [.ref a_text, .ref a_operands, .ref a_told, .int wordKind, .int wordPlace, .int wordEnd, .int number, .int statementPlace, .int action, .int how, .int (b2i isLast), .int faultKind_52, .int faultPlace_53])), (a_text, .inr (12, [.ref a_text_bytes, .int text_size])), (a_told, .inr (10, [.int told_order, .int told_runWay, .int told_memory, .int told_mergeWay, .int told_ways])), (a_text_bytes, .inl (g 0, 160, .inl text_bytes))]) [3, 0, 1, 2] (by decide) rfl
                  exact W.zret (v := (b2i b_51)) hx hb hr (nar_b2i _) (fun t ht hW => ⟨⟨_, (wordKind, wordPlace, wordEnd, number, faultKind_52, faultPlace_53, told_order, told_runWay, told_memory, told_mergeWay, told_ways, ()), rfl, ⟨b_51, rfl, hw⟩, ⟨P_at ht hP9, hD9⟩⟩, hS.F ht⟩) hS.2.2 dX5_readOption_204
                · have hw := hw.2 (b2i_1 c_50)
                  exact JN157  _ _ hw (hP.sub [0, 1, 2, 3] rfl) (hD.sub [0, 1, 2, 3] (by decide) rfl) hS _ (lv_sub hl [0] rfl)
            · have hw := hw.2 (b2i_1 c_32)
              refine lv_aload_n hx hb dX5_readOption_129 rfl (lv_at hl 0 rfl) ?_
              refine va_get (D := (dC, dI)) (ci := 7) (v := .ref a_told) (C := RX5) (T := TX5) (N := 13) hx hb hts hiX5 hown hK hP 0 rfl rfl 2 (by decide) hf25 (fun _ h9 => h9) rfl dX5_readOption_130 ?_
              refine lv_iconst (v := 1) hx hb dX5_readOption_133 (by decide) ?_
              refine va_putN (D := (dC, dI)) (ci := 10) (v := .int 1) (ty := .int) (C := RX8) (T := TX8) (N := 5) hx hb hts hiX8 tyX8 tyX8_ok nmX8 hown hK hP hD hS 2 rfl rfl 3 (by decide) (nf_19 hG) (fun _ h9 => h9) rfl (by decide +kernel) rfl rfl (Nat.le_of_ble_eq_true rfl) dX5_readOption_134 (fun H_54 L_55 hP hD hS => ?_)
              have hP : va_P (dC, dI) vwCl [(a_this, .inr (7, [.ref a_text, .ref a_operands, .ref a_told, .int wordKind, .int wordPlace, .int wordEnd, .int number, .int statementPlace, .int action, .int how, .int (b2i isLast), .int faultKind, .int faultPlace])), (a_text, .inr (12, [.ref a_text_bytes, .int text_size])), (a_told, .inr (10, [.int told_order, .int told_runWay, .int told_memory, .int 1, .int told_ways])), (a_text_bytes, .inl (g 0, 160, .inl text_bytes))] H_54 := hP
              have hD : va_D A [(a_this, .inr (7, [.ref a_text, .ref a_operands, .ref a_told, .int wordKind, .int wordPlace, .int wordEnd, .int number, .int statementPlace, .int action, .int how, .int (b2i isLast), .int faultKind, .int faultPlace])), (a_text, .inr (12, [.ref a_text_bytes, .int text_size])), (a_told, .inr (10, [.int told_order, .int told_runWay, .int told_memory, .int 1, .int told_ways])), (a_text_bytes, .inl (g 0, 160, .inl text_bytes))] := hD
              refine lv_iconst (v := 1) hx hb dX5_readOption_137 (by decide) ?_
              subst hQM
              have hP9 := hP.sub (ws' := [(a_this, .inr (7, [.ref a_text, .ref a_operands, .ref a_told, .int wordKind, .int wordPlace, .int wordEnd, .int number, .int statementPlace, .int action, .int how, .int (b2i isLast), .int faultKind, .int faultPlace])), (a_text, .inr (12, [.ref a_text_bytes, .int text_size])), (a_told, .inr (10, [.int told_order, .int told_runWay, .int told_memory, .int 1, .int told_ways])), (a_text_bytes, .inl (g 0, 160, .inl text_bytes))]) [0, 1, 2, 3] rfl
              have hD9 := hD.sub (ws' := [(a_this, .inr (7, [.ref a_text, .ref a_operands, .ref a_told, .int wordKind, .int wordPlace, .int wordEnd, .int number, .int statementPlace, .int action, .int how, .int (b2i isLast), .int faultKind, .int faultPlace])), (a_text, .inr (12, [.ref a_text_bytes, .int text_size])), (a_told, .inr (10, [.int told_order, .int told_runWay, .int told_memory, .int 1, .int told_ways])), (a_text_bytes, .inl (g 0, 160, .inl text_bytes))]) [0, 1, 2, 3] (by decide) rfl
              exact W.zret (v := 1) hx hb hr rfl (fun t ht hW => ⟨⟨_, (wordKind, wordPlace, wordEnd, number, faultKind, faultPlace, told_order, told_runWay, told_memory, 1, told_ways, ()), rfl, ⟨true, rfl, hw⟩, ⟨P_at ht hP9, hD9⟩⟩, hS.F ht⟩) hS.2.2 dX5_readOption_138
          · have hw := hw.2 (b2i_1 c_30)
            exact JN78  _ _ hw (hP.sub [0, 1, 2, 3] rfl) (hD.sub [0, 1, 2, 3] (by decide) rfl) hS _ (lv_sub hl [0] rfl)
      · have hw := hw.2 (b2i_1 c_12)
        refine lv_aload_n hx hb dX5_readOption_50 rfl (lv_at hl 0 rfl) ?_
        refine va_get (D := (dC, dI)) (ci := 7) (v := .ref a_told) (C := RX5) (T := TX5) (N := 13) hx hb hts hiX5 hown hK hP 0 rfl rfl 2 (by decide) hf25 (fun _ h9 => h9) rfl dX5_readOption_51 ?_
        refine lv_iconst (v := 2) hx hb dX5_readOption_54 (by decide) ?_
        refine va_putN (D := (dC, dI)) (ci := 10) (v := .int 2) (ty := .int) (C := RX8) (T := TX8) (N := 5) hx hb hts hiX8 tyX8 tyX8_ok nmX8 hown hK hP hD hS 2 rfl rfl 1 (by decide) (nf_11 hG) (fun _ h9 => h9) rfl (by decide +kernel) rfl rfl (Nat.le_of_ble_eq_true rfl) dX5_readOption_55 (fun H_56 L_57 hP hD hS => ?_)
        have hP : va_P (dC, dI) vwCl [(a_this, .inr (7, [.ref a_text, .ref a_operands, .ref a_told, .int wordKind, .int wordPlace, .int wordEnd, .int number, .int statementPlace, .int action, .int how, .int (b2i isLast), .int faultKind, .int faultPlace])), (a_text, .inr (12, [.ref a_text_bytes, .int text_size])), (a_told, .inr (10, [.int told_order, .int 2, .int told_memory, .int told_mergeWay, .int told_ways])), (a_text_bytes, .inl (g 0, 160, .inl text_bytes))] H_56 := hP
        have hD : va_D A [(a_this, .inr (7, [.ref a_text, .ref a_operands, .ref a_told, .int wordKind, .int wordPlace, .int wordEnd, .int number, .int statementPlace, .int action, .int how, .int (b2i isLast), .int faultKind, .int faultPlace])), (a_text, .inr (12, [.ref a_text_bytes, .int text_size])), (a_told, .inr (10, [.int told_order, .int 2, .int told_memory, .int told_mergeWay, .int told_ways])), (a_text_bytes, .inl (g 0, 160, .inl text_bytes))] := hD
        refine lv_iconst (v := 1) hx hb dX5_readOption_58 (by decide) ?_
        subst hQM
        have hP9 := hP.sub (ws' := [(a_this, .inr (7, [.ref a_text, .ref a_operands, .ref a_told, .int wordKind, .int wordPlace, .int wordEnd, .int number, .int statementPlace, .int action, .int how, .int (b2i isLast), .int faultKind, .int faultPlace])), (a_text, .inr (12, [.ref a_text_bytes, .int text_size])), (a_told, .inr (10, [.int told_order, .int 2, .int told_memory, .int told_mergeWay, .int told_ways])), (a_text_bytes, .inl (g 0, 160, .inl text_bytes))]) [0, 1, 2, 3] rfl
        have hD9 := hD.sub (ws' := [(a_this, .inr (7, [.ref a_text, .ref a_operands, .ref a_told, .int wordKind, .int wordPlace, .int wordEnd, .int number, .int statementPlace, .int action, .int how, .int (b2i isLast), .int faultKind, .int faultPlace])), (a_text, .inr (12, [.ref a_text_bytes, .int text_size])), (a_told, .inr (10, [.int told_order, .int 2, .int told_memory, .int told_mergeWay, .int told_ways])), (a_text_bytes, .inl (g 0, 160, .inl text_bytes))]) [0, 1, 2, 3] (by decide) rfl
        exact W.zret (v := 1) hx hb hr rfl (fun t ht hW => ⟨⟨_, (wordKind, wordPlace, wordEnd, number, faultKind, faultPlace, told_order, 2, told_memory, told_mergeWay, told_ways, ()), rfl, ⟨true, rfl, hw⟩, ⟨P_at ht hP9, hD9⟩⟩, hS.F ht⟩) hS.2.2 dX5_readOption_59
    · have hw := hw.2 (b2i_1 c_10)
      exact JN18  _ _ hw (hP.sub [0, 1, 2, 3] rfl) (hD.sub [0, 1, 2, 3] (by decide) rfl) hS _ (lv_sub hl [0] rfl)
theorem dX5_readOptions_0 : decode cX5_readOptions 0 = .ok (.iconst 0, 1) := by decide +kernel
theorem dX5_readOptions_1 : decode cX5_readOptions 1 = .ok (.istore_n 1, 1) := by decide +kernel
theorem dX5_readOptions_21 : decode cX5_readOptions 21 = .ok (.iconst 1, 1) := by decide +kernel
theorem dX5_readOptions_22 : decode cX5_readOptions 22 = .ok (.ireturn, 1) := by decide +kernel
theorem dX5_readOptions_30 : decode cX5_readOptions 30 = .ok (.iconst 0, 1) := by decide +kernel
theorem dX5_readOptions_31 : decode cX5_readOptions 31 = .ok (.ireturn, 1) := by decide +kernel
theorem dX5_readOptions_38 : decode cX5_readOptions 38 = .ok (.iconst 0, 1) := by decide +kernel
theorem dX5_readOptions_39 : decode cX5_readOptions 39 = .ok (.ireturn, 1) := by decide +kernel
theorem dX5_readOptions_2 : decode cX5_readOptions 2 = .ok (.iload_n 1, 1) := by decide +kernel
theorem dX5_readOptions_3 : decode cX5_readOptions 3 = .ok (.sipush 160, 3) := by decide +kernel
theorem dX5_readOptions_6 : decode cX5_readOptions 6 = .ok (.if_icmp .gt 32, 3) := by decide +kernel
theorem dX5_readOptions_9 : decode cX5_readOptions 9 = .ok (.aload_n 0, 1) := by decide +kernel
theorem dX5_readOptions_10 : decode cX5_readOptions 10 = .ok (.invokevirtual 61, 3) := by decide +kernel
theorem dX5_readOptions_13 : decode cX5_readOptions 13 = .ok (.aload_n 0, 1) := by decide +kernel
theorem dX5_readOptions_14 : decode cX5_readOptions 14 = .ok (.getfield 29, 3) := by decide +kernel
theorem dX5_readOptions_17 : decode cX5_readOptions 17 = .ok (.iconst 3, 1) := by decide +kernel
theorem dX5_readOptions_18 : decode cX5_readOptions 18 = .ok (.if_icmp .ne 5, 3) := by decide +kernel
theorem dX5_readOptions_23 : decode cX5_readOptions 23 = .ok (.aload_n 0, 1) := by decide +kernel
theorem dX5_readOptions_24 : decode cX5_readOptions 24 = .ok (.invokevirtual 122, 3) := by decide +kernel
theorem dX5_readOptions_27 : decode cX5_readOptions 27 = .ok (.ifCond .ne 5, 3) := by decide +kernel
theorem dX5_readOptions_32 : decode cX5_readOptions 32 = .ok (.iinc 1 1, 3) := by decide +kernel
theorem dX5_readOptions_35 : decode cX5_readOptions 35 = .ok (.goto (-33), 3) := by decide +kernel
abbrev Wa_X5_readOptions (g : Nat → ClassId) (a_this : Nat) (a_text : Nat) (a_operands : Nat) (a_told : Nat) (wordKind : Int32) (wordPlace : Int32) (wordEnd : Int32) (number : Int32) (statementPlace : Int32) (action : Int32) (how : Int32) (isLast : Bool) (faultKind : Int32) (faultPlace : Int32) (a_text_bytes : Nat) (text_size : Int32) (told_order : Int32) (told_runWay : Int32) (told_memory : Int32) (told_mergeWay : Int32) (told_ways : Int32) (text_bytes : Nat → Int32) : va_W := [(a_this, .inr (7, [.ref a_text, .ref a_operands, .ref a_told, .int wordKind, .int wordPlace, .int wordEnd, .int number, .int statementPlace, .int action, .int how, .int (b2i isLast), .int faultKind, .int faultPlace])), (a_text, .inr (12, [.ref a_text_bytes, .int text_size])), (a_told, .inr (10, [.int told_order, .int told_runWay, .int told_memory, .int told_mergeWay, .int told_ways])), (a_text_bytes, .inl (g 0, 160, .inl text_bytes))]
abbrev Wb_X5_readOptions (g : Nat → ClassId) (a_this : Nat) (a_text : Nat) (a_operands : Nat) (a_told : Nat) (statementPlace : Int32) (action : Int32) (how : Int32) (isLast : Bool) (a_text_bytes : Nat) (text_size : Int32) (text_bytes : Nat → Int32) (u : Int32 × Int32 × Int32 × Int32 × Int32 × Int32 × Int32 × Int32 × Int32 × Int32 × Int32 × Unit) : va_W := [(a_this, .inr (7, [.ref a_text, .ref a_operands, .ref a_told, .int u.1, .int u.2.1, .int u.2.2.1, .int u.2.2.2.1, .int statementPlace, .int action, .int how, .int (b2i isLast), .int u.2.2.2.2.1, .int u.2.2.2.2.2.1])), (a_text, .inr (12, [.ref a_text_bytes, .int text_size])), (a_told, .inr (10, [.int u.2.2.2.2.2.2.1, .int u.2.2.2.2.2.2.2.1, .int u.2.2.2.2.2.2.2.2.1, .int u.2.2.2.2.2.2.2.2.2.1, .int u.2.2.2.2.2.2.2.2.2.2.1])), (a_text_bytes, .inl (g 0, 160, .inl text_bytes))]
set_option maxHeartbeats 8000000 in
set_option maxRecDepth 100000 in
theorem c_X5_readOptions (l : Launch) (dC : Nat → ClassId) (dI : Nat → Nat → Nat) (g : Nat → ClassId) (a_this : Nat) (a_text : Nat) (a_operands : Nat) (a_told : Nat) (wordKind : Int32) (wordPlace : Int32) (wordEnd : Int32) (number : Int32) (statementPlace : Int32) (action : Int32) (how : Int32) (isLast : Bool) (faultKind : Int32) (faultPlace : Int32) (a_text_bytes : Nat) (text_size : Int32) (told_order : Int32) (told_runWay : Int32) (told_memory : Int32) (told_mergeWay : Int32) (told_ways : Int32) (text_bytes : Nat → Int32) (Q : Bool → Int32 → Int32 → Int32 → Int32 → Int32 → Int32 → Int32 → Int32 → Int32 → Int32 → Int32 → Prop) (hw : wp_X5_readOptions wordKind wordPlace wordEnd number faultKind faultPlace text_size told_order told_runWay told_memory told_mergeWay told_ways text_bytes Q) (sz : Nat) : Met l yX5_readOptions wqX5_readOptions ({ frames := 12, cells := 0, slots := 0, locals := 163 }) (va_Pc [.ref a_this] (PG (dC, dI) g (Wa_X5_readOptions g a_this a_text a_operands a_told wordKind wordPlace wordEnd number statementPlace action how isLast faultKind faultPlace a_text_bytes text_size told_order told_runWay told_memory told_mergeWay told_ways text_bytes) sz)) (va_Qi (fun (r : Int32) (u : Int32 × Int32 × Int32 × Int32 × Int32 × Int32 × Int32 × Int32 × Int32 × Int32 × Int32 × Unit) => ∃ b : Bool, r = b2i b ∧ Q b u.1 u.2.1 u.2.2.1 u.2.2.2.1 u.2.2.2.2.1 u.2.2.2.2.2.1 u.2.2.2.2.2.2.1 u.2.2.2.2.2.2.2.1 u.2.2.2.2.2.2.2.2.1 u.2.2.2.2.2.2.2.2.2.1 u.2.2.2.2.2.2.2.2.2.2.1) (fun (u : Int32 × Int32 × Int32 × Int32 × Int32 × Int32 × Int32 × Int32 × Int32 × Int32 × Int32 × Unit) t9 => va_P (dC, dI) vwCl (Wb_X5_readOptions g a_this a_text a_operands a_told statementPlace action how isLast a_text_bytes text_size text_bytes u) t9.heap ∧ va_D (va_A (Wa_X5_readOptions g a_this a_text a_operands a_told wordKind wordPlace wordEnd number statementPlace action how isLast faultKind faultPlace a_text_bytes text_size told_order told_runWay told_memory told_mergeWay told_ways text_bytes) sz) (Wb_X5_readOptions g a_this a_text a_operands a_told statementPlace action how isLast a_text_bytes text_size text_bytes u)) (va_A (Wa_X5_readOptions g a_this a_text a_operands a_told wordKind wordPlace wordEnd number statementPlace action how isLast faultKind faultPlace a_text_bytes text_size told_order told_runWay told_memory told_mergeWay told_ways text_bytes) sz)) 0 0 (va_A (Wa_X5_readOptions g a_this a_text a_operands a_told wordKind wordPlace wordEnd number statementPlace action how isLast faultKind faultPlace a_text_bytes text_size told_order told_runWay told_memory told_mergeWay told_ways text_bytes) sz) := by
  refine Met.ofW (cc := cX5_readOptions) (maxL := 2) (ret := (some .boolean)) (by decide) rfl ?_
  intro p e s m args below meth c s₁ B hml hv
  obtain ⟨rfl, hsz, hP, hK, hD0, hG⟩ := hv
  have hx := B.exec
  have hb := B.bytes
  have hr := B.returns
  have hts := atoms_spec (ws := wqX5_readOptions) B.pre
  have hown : s.vm.findClass RX5 = some m.cls := findClass_of_methodNamed B.named
  have hlocks := B.notSynchronized
  subst hsz
  have hD := hD0.self (sz := s.heap.size)
  generalize hAe : va_A (Wa_X5_readOptions g a_this a_text a_operands a_told wordKind wordPlace wordEnd number statementPlace action how isLast faultKind faultPlace a_text_bytes text_size told_order told_runWay told_memory told_mergeWay told_ways text_bytes) s.heap.size = A at hD hG ⊢
  have hA : ∀ q : Nat, s.heap.size ≤ q → A q := fun q h => by rw [← hAe]; exact Or.inr h
  have hS : va_S A s.heap s.heap [] := va_S.rf
  have hl := lv_entry ([.ref a_this]) (n := 2) (Nat.le_of_ble_eq_true rfl)
  rw [lg_entry_eq]
  generalize (lg_sl ([.ref a_this]) ++ List.replicate (2 - (lg_sl ([.ref a_this])).length) Slot.unset).toArray = ls at hl ⊢
  have hl : lv_has ls 2 [(0, .ref a_this)] := hl
  unfold wp_X5_readOptions at hw
  have hf29 := hts (Cond.fieldLink RX5 29 "RunmergeOffice$Reader" "wordKind" "I") (aw_l aw_2_83)
  have hiX5 : ∀ w ∈ u_ws RX5 TX5 13, w ∈ wqX5_readOptions := fun w h => aw_l (aw_wsX50 w h)
  refine lv_iconst (v := 0) hx hb dX5_readOptions_0 (by decide) ?_
  refine lv_istore_n (lv' := [(1, .int 0), (0, .ref a_this)]) hx hb dX5_readOptions_1 rfl hl (by decide) rfl (fun ls hl => ?_)
  refine W_abs (fun QM hQM => ?_)
  have EX2_21 : ∀ (wordKind_13 : Int32) (wordPlace_14 : Int32) (wordEnd_15 : Int32) (number_16 : Int32) (faultKind_17 : Int32) (faultPlace_18 : Int32) (told_order_19 : Int32) (told_runWay_20 : Int32) (told_memory_21 : Int32) (told_mergeWay_22 : Int32) (told_ways_23 : Int32) (H : Heap) (locs : List Loc), (wx_X5_readOptions_2_21 Q) wordKind_13 wordPlace_14 wordEnd_15 number_16 faultKind_17 faultPlace_18 told_order_19 told_runWay_20 told_memory_21 told_mergeWay_22 told_ways_23 → va_P (dC, dI) vwCl [(a_this, .inr (7, [.ref a_text, .ref a_operands, .ref a_told, .int wordKind_13, .int wordPlace_14, .int wordEnd_15, .int number_16, .int statementPlace, .int action, .int how, .int (b2i isLast), .int faultKind_17, .int faultPlace_18])), (a_text, .inr (12, [.ref a_text_bytes, .int text_size])), (a_told, .inr (10, [.int told_order_19, .int told_runWay_20, .int told_memory_21, .int told_mergeWay_22, .int told_ways_23])), (a_text_bytes, .inl (g 0, 160, .inl text_bytes))] H → va_D A [(a_this, .inr (7, [.ref a_text, .ref a_operands, .ref a_told, .int wordKind_13, .int wordPlace_14, .int wordEnd_15, .int number_16, .int statementPlace, .int action, .int how, .int (b2i isLast), .int faultKind_17, .int faultPlace_18])), (a_text, .inr (12, [.ref a_text_bytes, .int text_size])), (a_told, .inr (10, [.int told_order_19, .int told_runWay_20, .int told_memory_21, .int told_mergeWay_22, .int told_ways_23])), (a_text_bytes, .inl (g 0, 160, .inl text_bytes))] → va_S A s.heap H locs → ∀ (ls : Array Slot), lv_has ls 2 [] → W p l e (headSpec wqX5_readOptions ({ frames := 12, cells := 0, slots := 0, locals := 163 })).room s m ([.ref a_this] : List Value).toArray below meth c H locs 0 0 QM (F0 m 21 ls []) := by
    intro wordKind_13 wordPlace_14 wordEnd_15 number_16 faultKind_17 faultPlace_18 told_order_19 told_runWay_20 told_memory_21 told_mergeWay_22 told_ways_23 H locs hw hP hD hS ls hl
    refine lv_iconst (v := 1) hx hb dX5_readOptions_21 (by decide) ?_
    subst hQM
    have hP9 := hP.sub (ws' := [(a_this, .inr (7, [.ref a_text, .ref a_operands, .ref a_told, .int wordKind_13, .int wordPlace_14, .int wordEnd_15, .int number_16, .int statementPlace, .int action, .int how, .int (b2i isLast), .int faultKind_17, .int faultPlace_18])), (a_text, .inr (12, [.ref a_text_bytes, .int text_size])), (a_told, .inr (10, [.int told_order_19, .int told_runWay_20, .int told_memory_21, .int told_mergeWay_22, .int told_ways_23])), (a_text_bytes, .inl (g 0, 160, .inl text_bytes))]) [0, 1, 2, 3] rfl
    have hD9 := hD.sub (ws' := [(a_this, .inr (7, [.ref a_text, .ref a_operands, .ref a_told, .int wordKind_13, .int wordPlace_14, .int wordEnd_15, .int number_16, .int statementPlace, .int action, .int how, .int (b2i isLast), .int faultKind_17, .int faultPlace_18])), (a_text, .inr (12, [.ref a_text_bytes, .int text_size])), (a_told, .inr (10, [.int told_order_19, .int told_runWay_20, .int told_memory_21, .int told_mergeWay_22, .int told_ways_23])), (a_text_bytes, .inl (g 0, 160, .inl text_bytes))]) [0, 1, 2, 3] (by decide) rfl
    exact W.zret (v := 1) hx hb hr rfl (fun t ht hW => ⟨⟨_, (wordKind_13, wordPlace_14, wordEnd_15, number_16, faultKind_17, faultPlace_18, told_order_19, told_runWay_20, told_memory_21, told_mergeWay_22, told_ways_23, ()), rfl, ⟨true, rfl, hw⟩, ⟨P_at ht hP9, hD9⟩⟩, hS.F ht⟩) hS.2.2 dX5_readOptions_22
  have EX2_30 : ∀ (wordKind_24 : Int32) (wordPlace_25 : Int32) (wordEnd_26 : Int32) (number_27 : Int32) (faultKind_28 : Int32) (faultPlace_29 : Int32) (told_order_30 : Int32) (told_runWay_31 : Int32) (told_memory_32 : Int32) (told_mergeWay_33 : Int32) (told_ways_34 : Int32) (H : Heap) (locs : List Loc), (wx_X5_readOptions_2_30 Q) wordKind_24 wordPlace_25 wordEnd_26 number_27 faultKind_28 faultPlace_29 told_order_30 told_runWay_31 told_memory_32 told_mergeWay_33 told_ways_34 → va_P (dC, dI) vwCl [(a_this, .inr (7, [.ref a_text, .ref a_operands, .ref a_told, .int wordKind_24, .int wordPlace_25, .int wordEnd_26, .int number_27, .int statementPlace, .int action, .int how, .int (b2i isLast), .int faultKind_28, .int faultPlace_29])), (a_text, .inr (12, [.ref a_text_bytes, .int text_size])), (a_told, .inr (10, [.int told_order_30, .int told_runWay_31, .int told_memory_32, .int told_mergeWay_33, .int told_ways_34])), (a_text_bytes, .inl (g 0, 160, .inl text_bytes))] H → va_D A [(a_this, .inr (7, [.ref a_text, .ref a_operands, .ref a_told, .int wordKind_24, .int wordPlace_25, .int wordEnd_26, .int number_27, .int statementPlace, .int action, .int how, .int (b2i isLast), .int faultKind_28, .int faultPlace_29])), (a_text, .inr (12, [.ref a_text_bytes, .int text_size])), (a_told, .inr (10, [.int told_order_30, .int told_runWay_31, .int told_memory_32, .int told_mergeWay_33, .int told_ways_34])), (a_text_bytes, .inl (g 0, 160, .inl text_bytes))] → va_S A s.heap H locs → ∀ (ls : Array Slot), lv_has ls 2 [] → W p l e (headSpec wqX5_readOptions ({ frames := 12, cells := 0, slots := 0, locals := 163 })).room s m ([.ref a_this] : List Value).toArray below meth c H locs 0 0 QM (F0 m 30 ls []) := by
    intro wordKind_24 wordPlace_25 wordEnd_26 number_27 faultKind_28 faultPlace_29 told_order_30 told_runWay_31 told_memory_32 told_mergeWay_33 told_ways_34 H locs hw hP hD hS ls hl
    refine lv_iconst (v := 0) hx hb dX5_readOptions_30 (by decide) ?_
    subst hQM
    have hP9 := hP.sub (ws' := [(a_this, .inr (7, [.ref a_text, .ref a_operands, .ref a_told, .int wordKind_24, .int wordPlace_25, .int wordEnd_26, .int number_27, .int statementPlace, .int action, .int how, .int (b2i isLast), .int faultKind_28, .int faultPlace_29])), (a_text, .inr (12, [.ref a_text_bytes, .int text_size])), (a_told, .inr (10, [.int told_order_30, .int told_runWay_31, .int told_memory_32, .int told_mergeWay_33, .int told_ways_34])), (a_text_bytes, .inl (g 0, 160, .inl text_bytes))]) [0, 1, 2, 3] rfl
    have hD9 := hD.sub (ws' := [(a_this, .inr (7, [.ref a_text, .ref a_operands, .ref a_told, .int wordKind_24, .int wordPlace_25, .int wordEnd_26, .int number_27, .int statementPlace, .int action, .int how, .int (b2i isLast), .int faultKind_28, .int faultPlace_29])), (a_text, .inr (12, [.ref a_text_bytes, .int text_size])), (a_told, .inr (10, [.int told_order_30, .int told_runWay_31, .int told_memory_32, .int told_mergeWay_33, .int told_ways_34])), (a_text_bytes, .inl (g 0, 160, .inl text_bytes))]) [0, 1, 2, 3] (by decide) rfl
    exact W.zret (v := 0) hx hb hr rfl (fun t ht hW => ⟨⟨_, (wordKind_24, wordPlace_25, wordEnd_26, number_27, faultKind_28, faultPlace_29, told_order_30, told_runWay_31, told_memory_32, told_mergeWay_33, told_ways_34, ()), rfl, ⟨false, rfl, hw⟩, ⟨P_at ht hP9, hD9⟩⟩, hS.F ht⟩) hS.2.2 dX5_readOptions_31
  have EX2_38 : ∀ (wordKind_35 : Int32) (wordPlace_36 : Int32) (wordEnd_37 : Int32) (number_38 : Int32) (faultKind_39 : Int32) (faultPlace_40 : Int32) (told_order_41 : Int32) (told_runWay_42 : Int32) (told_memory_43 : Int32) (told_mergeWay_44 : Int32) (told_ways_45 : Int32) (H : Heap) (locs : List Loc), (wx_X5_readOptions_2_38 Q) wordKind_35 wordPlace_36 wordEnd_37 number_38 faultKind_39 faultPlace_40 told_order_41 told_runWay_42 told_memory_43 told_mergeWay_44 told_ways_45 → va_P (dC, dI) vwCl [(a_this, .inr (7, [.ref a_text, .ref a_operands, .ref a_told, .int wordKind_35, .int wordPlace_36, .int wordEnd_37, .int number_38, .int statementPlace, .int action, .int how, .int (b2i isLast), .int faultKind_39, .int faultPlace_40])), (a_text, .inr (12, [.ref a_text_bytes, .int text_size])), (a_told, .inr (10, [.int told_order_41, .int told_runWay_42, .int told_memory_43, .int told_mergeWay_44, .int told_ways_45])), (a_text_bytes, .inl (g 0, 160, .inl text_bytes))] H → va_D A [(a_this, .inr (7, [.ref a_text, .ref a_operands, .ref a_told, .int wordKind_35, .int wordPlace_36, .int wordEnd_37, .int number_38, .int statementPlace, .int action, .int how, .int (b2i isLast), .int faultKind_39, .int faultPlace_40])), (a_text, .inr (12, [.ref a_text_bytes, .int text_size])), (a_told, .inr (10, [.int told_order_41, .int told_runWay_42, .int told_memory_43, .int told_mergeWay_44, .int told_ways_45])), (a_text_bytes, .inl (g 0, 160, .inl text_bytes))] → va_S A s.heap H locs → ∀ (ls : Array Slot), lv_has ls 2 [] → W p l e (headSpec wqX5_readOptions ({ frames := 12, cells := 0, slots := 0, locals := 163 })).room s m ([.ref a_this] : List Value).toArray below meth c H locs 0 0 QM (F0 m 38 ls []) := by
    intro wordKind_35 wordPlace_36 wordEnd_37 number_38 faultKind_39 faultPlace_40 told_order_41 told_runWay_42 told_memory_43 told_mergeWay_44 told_ways_45 H locs hw hP hD hS ls hl
    refine lv_iconst (v := 0) hx hb dX5_readOptions_38 (by decide) ?_
    subst hQM
    have hP9 := hP.sub (ws' := [(a_this, .inr (7, [.ref a_text, .ref a_operands, .ref a_told, .int wordKind_35, .int wordPlace_36, .int wordEnd_37, .int number_38, .int statementPlace, .int action, .int how, .int (b2i isLast), .int faultKind_39, .int faultPlace_40])), (a_text, .inr (12, [.ref a_text_bytes, .int text_size])), (a_told, .inr (10, [.int told_order_41, .int told_runWay_42, .int told_memory_43, .int told_mergeWay_44, .int told_ways_45])), (a_text_bytes, .inl (g 0, 160, .inl text_bytes))]) [0, 1, 2, 3] rfl
    have hD9 := hD.sub (ws' := [(a_this, .inr (7, [.ref a_text, .ref a_operands, .ref a_told, .int wordKind_35, .int wordPlace_36, .int wordEnd_37, .int number_38, .int statementPlace, .int action, .int how, .int (b2i isLast), .int faultKind_39, .int faultPlace_40])), (a_text, .inr (12, [.ref a_text_bytes, .int text_size])), (a_told, .inr (10, [.int told_order_41, .int told_runWay_42, .int told_memory_43, .int told_mergeWay_44, .int told_ways_45])), (a_text_bytes, .inl (g 0, 160, .inl text_bytes))]) [0, 1, 2, 3] (by decide) rfl
    exact W.zret (v := 0) hx hb hr rfl (fun t ht hW => ⟨⟨_, (wordKind_35, wordPlace_36, wordEnd_37, number_38, faultKind_39, faultPlace_40, told_order_41, told_runWay_42, told_memory_43, told_mergeWay_44, told_ways_45, ()), rfl, ⟨false, rfl, hw⟩, ⟨P_at ht hP9, hD9⟩⟩, hS.F ht⟩) hS.2.2 dX5_readOptions_39
  have LOOP2 : ∀ (n2 : Nat) (v1_1 : Int32) (wordKind_2 : Int32) (wordPlace_3 : Int32) (wordEnd_4 : Int32) (number_5 : Int32) (faultKind_6 : Int32) (faultPlace_7 : Int32) (told_order_8 : Int32) (told_runWay_9 : Int32) (told_memory_10 : Int32) (told_mergeWay_11 : Int32) (told_ways_12 : Int32) (H : Heap) (locs : List Loc), wl_X5_readOptions_2 text_size text_bytes (wx_X5_readOptions_2_21 Q) (wx_X5_readOptions_2_30 Q) (wx_X5_readOptions_2_38 Q) n2 v1_1 wordKind_2 wordPlace_3 wordEnd_4 number_5 faultKind_6 faultPlace_7 told_order_8 told_runWay_9 told_memory_10 told_mergeWay_11 told_ways_12 → va_P (dC, dI) vwCl [(a_this, .inr (7, [.ref a_text, .ref a_operands, .ref a_told, .int wordKind_2, .int wordPlace_3, .int wordEnd_4, .int number_5, .int statementPlace, .int action, .int how, .int (b2i isLast), .int faultKind_6, .int faultPlace_7])), (a_text, .inr (12, [.ref a_text_bytes, .int text_size])), (a_told, .inr (10, [.int told_order_8, .int told_runWay_9, .int told_memory_10, .int told_mergeWay_11, .int told_ways_12])), (a_text_bytes, .inl (g 0, 160, .inl text_bytes))] H → va_D A [(a_this, .inr (7, [.ref a_text, .ref a_operands, .ref a_told, .int wordKind_2, .int wordPlace_3, .int wordEnd_4, .int number_5, .int statementPlace, .int action, .int how, .int (b2i isLast), .int faultKind_6, .int faultPlace_7])), (a_text, .inr (12, [.ref a_text_bytes, .int text_size])), (a_told, .inr (10, [.int told_order_8, .int told_runWay_9, .int told_memory_10, .int told_mergeWay_11, .int told_ways_12])), (a_text_bytes, .inl (g 0, 160, .inl text_bytes))] → va_S A s.heap H locs → ∀ (ls : Array Slot), lv_has ls 2 [(0, .ref a_this), (1, .int v1_1)] → W p l e (headSpec wqX5_readOptions ({ frames := 12, cells := 0, slots := 0, locals := 163 })).room s m ([.ref a_this] : List Value).toArray below meth c H locs 0 0 QM (F0 m 2 ls []) := by
    intro n2
    induction n2 with
    | zero =>
      intro v1_1 wordKind_2 wordPlace_3 wordEnd_4 number_5 faultKind_6 faultPlace_7 told_order_8 told_runWay_9 told_memory_10 told_mergeWay_11 told_ways_12 H locs hw hP hD hS ls hl
      exact False.elim hw
    | succ n2 ih2 =>
      intro v1_1 wordKind_2 wordPlace_3 wordEnd_4 number_5 faultKind_6 faultPlace_7 told_order_8 told_runWay_9 told_memory_10 told_mergeWay_11 told_ways_12 H locs hw hP hD hS ls hl
      rw [wl_X5_readOptions_2_s] at hw
      refine lv_iload_n hx hb dX5_readOptions_2 rfl (lv_at hl 1 rfl) ?_
      refine lv_sipush (v := 160) hx hb dX5_readOptions_3 (by decide) ?_
      refine lv_icmp_gt (tgt := 38) hx hb dX5_readOptions_6 (by decide) (fun c_46 => ?_) (fun c_46 => ?_)
      · have hw := hw.1 c_46
        exact EX2_38 wordKind_2 wordPlace_3 wordEnd_4 number_5 faultKind_6 faultPlace_7 told_order_8 told_runWay_9 told_memory_10 told_mergeWay_11 told_ways_12 _ _ hw (hP.sub [0, 1, 2, 3] rfl) (hD.sub [0, 1, 2, 3] (by decide) rfl) hS _ (lv_sub hl [] rfl)
      · have hw := hw.2 c_46
        refine lv_aload_n hx hb dX5_readOptions_9 rfl (lv_at hl 0 rfl) ?_
        have hPc := hP.sub (ws' := [(a_this, .inr (7, [.ref a_text, .ref a_operands, .ref a_told, .int wordKind_2, .int wordPlace_3, .int wordEnd_4, .int number_5, .int statementPlace, .int action, .int how, .int (b2i isLast), .int faultKind_6, .int faultPlace_7])), (a_text, .inr (12, [.ref a_text_bytes, .int text_size])), (a_text_bytes, .inl (g 0, 160, .inl text_bytes))]) [0, 1, 3] rfl
        have hDc := hD.sub (ws' := [(a_this, .inr (7, [.ref a_text, .ref a_operands, .ref a_told, .int wordKind_2, .int wordPlace_3, .int wordEnd_4, .int number_5, .int statementPlace, .int action, .int how, .int (b2i isLast), .int faultKind_6, .int faultPlace_7])), (a_text, .inr (12, [.ref a_text_bytes, .int text_size])), (a_text_bytes, .inl (g 0, 160, .inl text_bytes))]) [0, 1, 3] (by decide) rfl
        have hFc := va_free (wc := [(a_this, .inr (7, [.ref a_text, .ref a_operands, .ref a_told, .int wordKind_2, .int wordPlace_3, .int wordEnd_4, .int number_5, .int statementPlace, .int action, .int how, .int (b2i isLast), .int faultKind_6, .int faultPlace_7])), (a_text, .inr (12, [.ref a_text_bytes, .int text_size])), (a_text_bytes, .inl (g 0, 160, .inl text_bytes))]) hD hS hA [0, 1, 3] rfl
        refine va_callv (va_runV (As := []) (rest := []) ⟨hx, hb, hml, hown, hts⟩ (c_X5_readWord l dC dI g (a_this := a_this) (a_text := a_text) (a_operands := a_operands) (a_told := a_told) (wordKind := wordKind_2) (wordPlace := wordPlace_3) (wordEnd := wordEnd_4) (number := number_5) (statementPlace := statementPlace) (action := action) (how := how) (isLast := isLast) (faultKind := faultKind_6) (faultPlace := faultPlace_7) (a_text_bytes := a_text_bytes) (text_size := text_size) (text_bytes := text_bytes) (hw := hw) (sz := H.size)) (cwV 0 hts (gqV aw_5_60 aw_5_62 aw_0_32 aw_1_10 aw_5_63) rfl rfl rfl (by decide +kernel) ⟨Nat.le_of_ble_eq_true rfl, Nat.le_of_ble_eq_true rfl⟩) ⟨PG_blind, va_recv hK hP (ci := 7) (q0 := 0) rfl rfl, PG_call hK hG hS hPc hDc hFc⟩ rfl rfl hl.1 rfl (lv_room (Nat.le_of_ble_eq_true rfl)) dX5_readOptions_10 ⟨Nat.le_of_ble_eq_true rfl, Nat.le_of_ble_eq_true rfl⟩) hS (fun q _ h => hFc q h) hFc (fun u_47 t_47 H_47 L_47 ht_47 hvm_47 hw_47 hB_47 hz_47 hk_47 hS => ?_)
        obtain ⟨wordKind_48, wordPlace_49, wordEnd_50, u_47⟩ := u_47
        obtain ⟨hP1, hD1⟩ := hB_47
        rw [ht_47] at hP1
        obtain ⟨hP, hD⟩ := va_join (wr := [(a_told, .inr (10, [.int told_order_8, .int told_runWay_9, .int told_memory_10, .int told_mergeWay_11, .int told_ways_12]))]) (w1 := [(a_this, .inr (7, [.ref a_text, .ref a_operands, .ref a_told, .int wordKind_48, .int wordPlace_49, .int wordEnd_50, .int number_5, .int statementPlace, .int action, .int how, .int (b2i isLast), .int faultKind_6, .int faultPlace_7])), (a_text, .inr (12, [.ref a_text_bytes, .int text_size])), (a_text_bytes, .inl (g 0, 160, .inl text_bytes))]) hP hD [0, 1, 3] [2] rfl rfl (by decide) (by decide) hk_47 hFc hP1 hD1
        have hP : va_P (dC, dI) vwCl [(a_told, .inr (10, [.int told_order_8, .int told_runWay_9, .int told_memory_10, .int told_mergeWay_11, .int told_ways_12])), (a_this, .inr (7, [.ref a_text, .ref a_operands, .ref a_told, .int wordKind_48, .int wordPlace_49, .int wordEnd_50, .int number_5, .int statementPlace, .int action, .int how, .int (b2i isLast), .int faultKind_6, .int faultPlace_7])), (a_text, .inr (12, [.ref a_text_bytes, .int text_size])), (a_text_bytes, .inl (g 0, 160, .inl text_bytes))] H_47 := hP
        have hD : va_D A [(a_told, .inr (10, [.int told_order_8, .int told_runWay_9, .int told_memory_10, .int told_mergeWay_11, .int told_ways_12])), (a_this, .inr (7, [.ref a_text, .ref a_operands, .ref a_told, .int wordKind_48, .int wordPlace_49, .int wordEnd_50, .int number_5, .int statementPlace, .int action, .int how, .int (b2i isLast), .int faultKind_6, .int faultPlace_7])), (a_text, .inr (12, [.ref a_text_bytes, .int text_size])), (a_text_bytes, .inl (g 0, 160, .inl text_bytes))] := hD
        have hw := hw_47
        refine lv_aload_n hx hb dX5_readOptions_13 rfl (lv_at hl 0 rfl) ?_
        refine va_get (D := (dC, dI)) (ci := 7) (v := .int wordKind_48) (C := RX5) (T := TX5) (N := 13) hx hb hts hiX5 hown hK hP 1 rfl rfl 3 (by decide) hf29 (fun _ h9 => h9) rfl dX5_readOptions_14 ?_
        refine lv_iconst (v := 3) hx hb dX5_readOptions_17 (by decide) ?_
        refine lv_icmp_ne (tgt := 23) hx hb dX5_readOptions_18 (by decide) (fun c_51 => ?_) (fun c_51 => ?_)
        · have hw := hw.2 c_51
          refine lv_aload_n hx hb dX5_readOptions_23 rfl (lv_at hl 0 rfl) ?_
          have hPc := hP.sub (ws' := [(a_this, .inr (7, [.ref a_text, .ref a_operands, .ref a_told, .int wordKind_48, .int wordPlace_49, .int wordEnd_50, .int number_5, .int statementPlace, .int action, .int how, .int (b2i isLast), .int faultKind_6, .int faultPlace_7])), (a_text, .inr (12, [.ref a_text_bytes, .int text_size])), (a_told, .inr (10, [.int told_order_8, .int told_runWay_9, .int told_memory_10, .int told_mergeWay_11, .int told_ways_12])), (a_text_bytes, .inl (g 0, 160, .inl text_bytes))]) [1, 2, 0, 3] rfl
          have hDc := hD.sub (ws' := [(a_this, .inr (7, [.ref a_text, .ref a_operands, .ref a_told, .int wordKind_48, .int wordPlace_49, .int wordEnd_50, .int number_5, .int statementPlace, .int action, .int how, .int (b2i isLast), .int faultKind_6, .int faultPlace_7])), (a_text, .inr (12, [.ref a_text_bytes, .int text_size])), (a_told, .inr (10, [.int told_order_8, .int told_runWay_9, .int told_memory_10, .int told_mergeWay_11, .int told_ways_12])), (a_text_bytes, .inl (g 0, 160, .inl text_bytes))]) [1, 2, 0, 3] (by decide) rfl
          have hFc := va_free (wc := [(a_this, .inr (7, [.ref a_text, .ref a_operands, .ref a_told, .int wordKind_48, .int wordPlace_49, .int wordEnd_50, .int number_5, .int statementPlace, .int action, .int how, .int (b2i isLast), .int faultKind_6, .int faultPlace_7])), (a_text, .inr (12, [.ref a_text_bytes, .int text_size])), (a_told, .inr (10, [.int told_order_8, .int told_runWay_9, .int told_memory_10, .int told_mergeWay_11, .int told_ways_12])), (a_text_bytes, .inl (g 0, 160, .inl text_bytes))]) hD hS hA [1, 2, 0, 3] rfl
          refine va_calli (va_runV (As := []) (rest := []) ⟨hx, hb, hml, hown, hts⟩ (c_X5_readOption l dC dI g (a_this := a_this) (a_text := a_text) (a_operands := a_operands) (a_told := a_told) (wordKind := wordKind_48) (wordPlace := wordPlace_49) (wordEnd := wordEnd_50) (number := number_5) (statementPlace := statementPlace) (action := action) (how := how) (isLast := isLast) (faultKind := faultKind_6) (faultPlace := faultPlace_7) (a_text_bytes := a_text_bytes) (text_size := text_size) (told_order := told_order_8) (told_runWay := told_runWay_9) (told_memory := told_memory_10) (told_mergeWay := told_mergeWay_11) (told_ways := told_ways_12) (text_bytes := text_bytes) (hw := hw) (sz := H_47.size)) (cwV 0 hts (gqV aw_5_154 aw_5_156 aw_0_40 aw_1_10 aw_5_157) rfl rfl rfl (by decide +kernel) ⟨Nat.le_of_ble_eq_true rfl, Nat.le_of_ble_eq_true rfl⟩) ⟨PG_blind, va_recv hK hP (ci := 7) (q0 := 1) rfl rfl, PG_call hK hG hS hPc hDc hFc⟩ rfl rfl hl.1 rfl (lv_room (Nat.le_of_ble_eq_true rfl)) dX5_readOptions_24 ⟨Nat.le_of_ble_eq_true rfl, Nat.le_of_ble_eq_true rfl⟩) hS (fun q _ h => hFc q h) hFc (fun r_52 u_52 t_52 H_52 L_52 ht_52 hvm_52 hw_52 hB_52 hz_52 hk_52 hS => ?_)
          obtain ⟨wordKind_53, wordPlace_54, wordEnd_55, number_56, faultKind_57, faultPlace_58, told_order_59, told_runWay_60, told_memory_61, told_mergeWay_62, told_ways_63, u_52⟩ := u_52
          obtain ⟨hP1, hD1⟩ := hB_52
          rw [ht_52] at hP1
          obtain ⟨hP, hD⟩ := va_join (wr := []) (w1 := [(a_this, .inr (7, [.ref a_text, .ref a_operands, .ref a_told, .int wordKind_53, .int wordPlace_54, .int wordEnd_55, .int number_56, .int statementPlace, .int action, .int how, .int (b2i isLast), .int faultKind_57, .int faultPlace_58])), (a_text, .inr (12, [.ref a_text_bytes, .int text_size])), (a_told, .inr (10, [.int told_order_59, .int told_runWay_60, .int told_memory_61, .int told_mergeWay_62, .int told_ways_63])), (a_text_bytes, .inl (g 0, 160, .inl text_bytes))]) hP hD [1, 2, 0, 3] [] rfl rfl (by decide) (by decide) hk_52 hFc hP1 hD1
          have hP : va_P (dC, dI) vwCl [(a_this, .inr (7, [.ref a_text, .ref a_operands, .ref a_told, .int wordKind_53, .int wordPlace_54, .int wordEnd_55, .int number_56, .int statementPlace, .int action, .int how, .int (b2i isLast), .int faultKind_57, .int faultPlace_58])), (a_text, .inr (12, [.ref a_text_bytes, .int text_size])), (a_told, .inr (10, [.int told_order_59, .int told_runWay_60, .int told_memory_61, .int told_mergeWay_62, .int told_ways_63])), (a_text_bytes, .inl (g 0, 160, .inl text_bytes))] H_52 := hP
          have hD : va_D A [(a_this, .inr (7, [.ref a_text, .ref a_operands, .ref a_told, .int wordKind_53, .int wordPlace_54, .int wordEnd_55, .int number_56, .int statementPlace, .int action, .int how, .int (b2i isLast), .int faultKind_57, .int faultPlace_58])), (a_text, .inr (12, [.ref a_text_bytes, .int text_size])), (a_told, .inr (10, [.int told_order_59, .int told_runWay_60, .int told_memory_61, .int told_mergeWay_62, .int told_ways_63])), (a_text_bytes, .inl (g 0, 160, .inl text_bytes))] := hD
          obtain ⟨b_52, rfl, hw⟩ := hw_52
          refine lv_if_ne (tgt := 32) hx hb dX5_readOptions_27 (by decide) (fun c_64 => ?_) (fun c_64 => ?_)
          · have hw := hw.2 (b2i_1 c_64)
            obtain ⟨x_65, ex_65⟩ : ∃ y : Int32, y = v1_1 + 1 := ⟨_, rfl⟩
            have hw := hw x_65 ex_65
            refine lv_iinc (v := x_65) (lv' := [(1, .int x_65), (0, .ref a_this)]) hx hb dX5_readOptions_32 hl (k := 1) rfl (by rw [ex_65]; rfl) (by decide) rfl (fun ls hl => ?_)
            refine lv_goto (tgt := 2) hx hb dX5_readOptions_35 (by decide) ?_
            exact ih2 x_65 wordKind_53 wordPlace_54 wordEnd_55 number_56 faultKind_57 faultPlace_58 told_order_59 told_runWay_60 told_memory_61 told_mergeWay_62 told_ways_63 _ _ hw (hP.sub [0, 1, 2, 3] rfl) (hD.sub [0, 1, 2, 3] (by decide) rfl) hS _ (lv_sub hl [1, 0] rfl)
          · have hw := hw.1 (b2i_0 c_64)
            exact EX2_30 wordKind_53 wordPlace_54 wordEnd_55 number_56 faultKind_57 faultPlace_58 told_order_59 told_runWay_60 told_memory_61 told_mergeWay_62 told_ways_63 _ _ hw (hP.sub [0, 1, 2, 3] rfl) (hD.sub [0, 1, 2, 3] (by decide) rfl) hS _ (lv_sub hl [] rfl)
        · have hw := hw.1 c_51
          exact EX2_21 wordKind_48 wordPlace_49 wordEnd_50 number_5 faultKind_6 faultPlace_7 told_order_8 told_runWay_9 told_memory_10 told_mergeWay_11 told_ways_12 _ _ hw (hP.sub [1, 2, 0, 3] rfl) (hD.sub [1, 2, 0, 3] (by decide) rfl) hS _ (lv_sub hl [] rfl)
  obtain ⟨n2, hw⟩ := hw
  exact LOOP2 n2 0 wordKind wordPlace wordEnd number faultKind faultPlace told_order told_runWay told_memory told_mergeWay told_ways _ _ hw (hP.sub [0, 1, 2, 3] rfl) (hD.sub [0, 1, 2, 3] (by decide) rfl) hS _ (lv_sub hl [1, 0] rfl)
