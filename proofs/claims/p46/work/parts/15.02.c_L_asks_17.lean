theorem dL_asks_222 : decode cL_asks 222 = .ok (.aload_n 0, 1) := by decide +kernel
theorem dL_asks_223 : decode cL_asks 223 = .ok (.iload_n 2, 1) := by decide +kernel
theorem dL_asks_224 : decode cL_asks 224 = .ok (.i2l, 1) := by decide +kernel
theorem dL_asks_225 : decode cL_asks 225 = .ok (.invokevirtual 75, 3) := by decide +kernel
theorem dL_asks_228 : decode cL_asks 228 = .ok (.ireturn, 1) := by decide +kernel

set_option maxHeartbeats 8000000 in
set_option maxRecDepth 100000 in
theorem c_L_asks_17 (l : Launch) (hlf : l.stackTraces = false) (dC : Nat → ClassId) (dI : Nat → Nat → Nat) (g : Nat → ClassId) (tp_p_ hd_p_ : Nat → Nat) (tf_p_ cf_p_ : Nat → Option Nat) (htf_p_ : ∀ j, j < 8 → tf_p_ j = some (tp_p_ j)) (hcf_p_ : ∀ j, j < 8 → cf_p_ j = some (tp_p_ (8 + j))) (a_p_ : Nat → Nat) (t_p_ : Nat) (h_p_ : a_p_ 0 = t_p_) (o_p_ : OS) (a_ : Int32) (b_ : Int32) (c_ : Int32) (Q : Int32 → OS → Prop) (hw : wp_L_asks_17 o_p_ a_ Q) (sz : Nat) : Met l yL_asks wqL_asks ({ frames := 7, cells := 1, slots := 6, locals := 107 }) (va_Pc [.ref t_p_, .int 17, .int a_, .int b_, .int c_] (PG (dC, dI) g (offS a_p_ tp_p_ hd_p_ tf_p_ cf_p_ g o_p_) sz)) (va_Qi (fun (r : Int32) (u : (Nat → Nat) × OS × Unit) => Q r u.2.1 ∧ u.1 0 = t_p_) (fun (u : (Nat → Nat) × OS × Unit) t9 => va_P (dC, dI) vwCl (offS u.1 tp_p_ hd_p_ tf_p_ cf_p_ g u.2.1) t9.heap ∧ va_D (va_A (offS a_p_ tp_p_ hd_p_ tf_p_ cf_p_ g o_p_) sz) (offS u.1 tp_p_ hd_p_ tf_p_ cf_p_ g u.2.1)) (va_A (offS a_p_ tp_p_ hd_p_ tf_p_ cf_p_ g o_p_) sz)) 1 6 (va_A (offS a_p_ tp_p_ hd_p_ tf_p_ cf_p_ g o_p_) sz) := by
  refine mt_ofWH (cc := cL_asks) (maxL := 6) (ret := (some .int)) (hh := [(0, 100, 249, 82), (101, 111, 249, 82), (112, 122, 249, 82), (123, 129, 249, 82), (130, 138, 249, 82), (139, 145, 249, 82), (146, 154, 249, 82), (155, 161, 249, 82), (162, 168, 249, 82), (169, 174, 249, 82), (175, 179, 249, 82), (180, 185, 249, 82), (186, 195, 249, 82), (196, 202, 249, 82), (203, 209, 249, 82), (210, 216, 249, 82), (217, 221, 249, 82), (222, 228, 249, 82), (229, 239, 249, 82), (240, 248, 249, 82), (0, 100, 255, 84), (101, 111, 255, 84), (112, 122, 255, 84), (123, 129, 255, 84), (130, 138, 255, 84), (139, 145, 255, 84), (146, 154, 255, 84), (155, 161, 255, 84), (162, 168, 255, 84), (169, 174, 255, 84), (175, 179, 255, 84), (180, 185, 255, 84), (186, 195, 255, 84), (196, 202, 255, 84), (203, 209, 255, 84), (210, 216, 255, 84), (217, 221, 255, 84), (222, 228, 255, 84), (229, 239, 255, 84), (240, 248, 255, 84), (0, 100, 261, 86), (101, 111, 261, 86), (112, 122, 261, 86), (123, 129, 261, 86), (130, 138, 261, 86), (139, 145, 261, 86), (146, 154, 261, 86), (155, 161, 261, 86), (162, 168, 261, 86), (169, 174, 261, 86), (175, 179, 261, 86), (180, 185, 261, 86), (186, 195, 261, 86), (196, 202, 261, 86), (203, 209, 261, 86), (210, 216, 261, 86), (217, 221, 261, 86), (222, 228, 261, 86), (229, 239, 261, 86), (240, 248, 261, 86), (0, 100, 267, 88), (101, 111, 267, 88), (112, 122, 267, 88), (123, 129, 267, 88), (130, 138, 267, 88), (139, 145, 267, 88), (146, 154, 267, 88), (155, 161, 267, 88), (162, 168, 267, 88), (169, 174, 267, 88), (175, 179, 267, 88), (180, 185, 267, 88), (186, 195, 267, 88), (196, 202, 267, 88), (203, 209, 267, 88), (210, 216, 267, 88), (217, 221, 267, 88), (222, 228, 267, 88), (229, 239, 267, 88), (240, 248, 267, 88)]) (by decide) rfl ?_
  intro p e s m args below meth c s₁ B hml hv
  obtain ⟨rfl, hsz, hP, hK, hD0, hG⟩ := hv
  have hx := B.exec
  have hb := B.bytes
  have hr := B.returns
  have hts := atoms_spec (ws := wqL_asks) B.pre
  have hown : s.vm.findClass RL = some m.cls := findClass_of_methodNamed B.named
  have hlocks := B.notSynchronized
  subst hsz
  have hD := hD0.self (sz := s.heap.size)
  generalize hAe : va_A (offS a_p_ tp_p_ hd_p_ tf_p_ cf_p_ g o_p_) s.heap.size = A at hD hG ⊢
  have hA : ∀ q : Nat, s.heap.size ≤ q → A q := fun q h => by rw [← hAe]; exact Or.inr h
  have hS : va_S A s.heap s.heap [] := va_S.rf
  have hrc : (headSpec wqL_asks ({ frames := 7, cells := 1, slots := 6, locals := 107 })).room.cells = 1 := rfl
  have hrs : (headSpec wqL_asks ({ frames := 7, cells := 1, slots := 6, locals := 107 })).room.slots = 6 := rfl
  have hTab := vx_table (x := yL_asks) B (hts (Cond.codeWith yL_asks cL_asks 6 (some .int) [(0, 100, 249, 82), (101, 111, 249, 82), (112, 122, 249, 82), (123, 129, 249, 82), (130, 138, 249, 82), (139, 145, 249, 82), (146, 154, 249, 82), (155, 161, 249, 82), (162, 168, 249, 82), (169, 174, 249, 82), (175, 179, 249, 82), (180, 185, 249, 82), (186, 195, 249, 82), (196, 202, 249, 82), (203, 209, 249, 82), (210, 216, 249, 82), (217, 221, 249, 82), (222, 228, 249, 82), (229, 239, 249, 82), (240, 248, 249, 82), (0, 100, 255, 84), (101, 111, 255, 84), (112, 122, 255, 84), (123, 129, 255, 84), (130, 138, 255, 84), (139, 145, 255, 84), (146, 154, 255, 84), (155, 161, 255, 84), (162, 168, 255, 84), (169, 174, 255, 84), (175, 179, 255, 84), (180, 185, 255, 84), (186, 195, 255, 84), (196, 202, 255, 84), (203, 209, 255, 84), (210, 216, 255, 84), (217, 221, 255, 84), (222, 228, 255, 84), (229, 239, 255, 84), (240, 248, 255, 84), (0, 100, 261, 86), (101, 111, 261, 86), (112, 122, 261, 86), (123, 129, 261, 86), (130, 138, 261, 86), (139, 145, 261, 86), (146, 154, 261, 86), (155, 161, 261, 86), (162, 168, 261, 86), (169, 174, 261, 86), (175, 179, 261, 86), (180, 185, 261, 86), (186, 195, 261, 86), (196, 202, 261, 86), (203, 209, 261, 86), (210, 216, 261, 86), (217, 221, 261, 86), (222, 228, 261, 86), (229, 239, 261, 86), (240, 248, 261, 86), (0, 100, 267, 88), (101, 111, 267, 88), (112, 122, 267, 88), (123, 129, 267, 88), (130, 138, 267, 88), (139, 145, 267, 88), (146, 154, 267, 88), (155, 161, 267, 88), (162, 168, 267, 88), (169, 174, 267, 88), (175, 179, 267, 88), (180, 185, 267, 88), (186, 195, 267, 88), (196, 202, 267, 88), (203, 209, 267, 88), (210, 216, 267, 88), (217, 221, 267, 88), (222, 228, 267, 88), (229, 239, 267, 88), (240, 248, 267, 88)]) (List.mem_cons_self))
  have hl := lv_entry ([.ref t_p_, .int 17, .int a_, .int b_, .int c_]) (n := 6) (Nat.le_of_ble_eq_true rfl)
  rw [lg_entry_eq]
  generalize (lg_sl ([.ref t_p_, .int 17, .int a_, .int b_, .int c_]) ++ List.replicate (6 - (lg_sl ([.ref t_p_, .int 17, .int a_, .int b_, .int c_])).length) Slot.unset).toArray = ls at hl ⊢
  have hl : lv_has ls 6 [(0, .ref t_p_), (1, .int 17), (2, .int a_), (3, .int b_), (4, .int c_)] := hl
  unfold wp_L_asks_17 at hw
  have hxl82 := hts (Cond.classLink RL 82 "java/lang/IndexOutOfBoundsException") (aw_l aw_4_48)
  have hxl84 := hts (Cond.classLink RL 84 "java/util/NoSuchElementException") (aw_l aw_4_49)
  have hxl86 := hts (Cond.classLink RL 86 "java/lang/IllegalArgumentException") (aw_l aw_4_50)
  have hxl88 := hts (Cond.classLink RL 88 "java/lang/IllegalStateException") (aw_l aw_4_51)
  refine lv_iload_n hx hb dL_asks_0 rfl (lv_at hl 1 rfl) ?_
  refine lv_tableIn (tgt := 222) hx hb dL_asks_1 (by decide) (by decide) rfl (by decide) ?_
  refine lv_aload_n hx hb dL_asks_222 rfl (lv_at hl 0 rfl) ?_
  refine lv_iload_n hx hb dL_asks_223 rfl (lv_at hl 2 rfl) ?_
  refine lv_i2l (v := (a_ : Int32).toInt64) hx hb dL_asks_224 rfl ?_
  obtain ⟨hPs, hDs⟩ := seg_call (segs := [offS a_p_ tp_p_ hd_p_ tf_p_ cf_p_ g o_p_]) [] [offS a_p_ tp_p_ hd_p_ tf_p_ cf_p_ g o_p_] 1 [0] rfl rfl (by decide) hP hD
  have hPc : va_P (dC, dI) vwCl (offS a_p_ tp_p_ hd_p_ tf_p_ cf_p_ g o_p_) s.heap := P_r hPs
  have hDc : va_D A (offS a_p_ tp_p_ hd_p_ tf_p_ cf_p_ g o_p_) := D_r hDs
  have hFc : ∀ q, va_A (offS a_p_ tp_p_ hd_p_ tf_p_ cf_p_ g o_p_) s.heap.size q → A q := A_all hDc hA hS.1
  refine vx_calli (vx_runV (As := [.long ((a_ : Int32).toInt64)]) (rest := []) ⟨hx, hb, hml, hown, hts⟩ (p_type l hlf dC dI g tp_p_ hd_p_ tf_p_ cf_p_ htf_p_ hcf_p_ a_p_ t_p_ h_p_ o_p_ ((a_ : Int32).toInt64) (hw := hw) (sz := s.heap.size)) (cwV 1 hts (gqV aw_5_210 aw_5_211 aw_5_212 aw_1_1 aw_5_213) rfl rfl rfl (by decide +kernel) ⟨Nat.le_of_ble_eq_true rfl, Nat.le_of_ble_eq_true rfl⟩) ⟨PG_blind, off_recv h_p_ hK hPc, PG_call hK hG hS hPc hDc hFc⟩ rfl rfl hl.1 rfl (lv_room (Nat.le_of_ble_eq_true rfl)) dL_asks_225 ⟨by rw [hrc]; omega, by rw [hrs]; omega⟩) hS (fun q _ h => hFc q h) hFc (fun q _ h => hFc q h) (fun E ce q9 ux t H1 locs1 ht hvm hp9 hB9 hz hk hS9 hce hcv hcl => ?_) (fun r_1 u_1 t_1 H_1 L_1 ht_1 hvm_1 hw_1 hB_1 hz_1 hk_1 hS => ?_)
  · obtain ⟨ad_2, o_3⟩ := ux
    obtain ⟨⟨hw9, had_2⟩, hB9⟩ := hB9
    rw [ht] at hB9
    obtain ⟨hP1, hD1⟩ := hB9
    obtain ⟨hP, hD⟩ := join_r hPs hDs hk hFc hP1 hD1
    obtain ⟨hP, hD⟩ := seg_join [] [offS ad_2 tp_p_ hd_p_ tf_p_ cf_p_ g o_3] [offS ad_2 tp_p_ hd_p_ tf_p_ cf_p_ g o_3] 1 [0] rfl rfl (by decide) hP hD
    have hP : va_P (dC, dI) vwCl (offS ad_2 tp_p_ hd_p_ tf_p_ cf_p_ g o_3) H1 := hP
    have hD : va_D A (offS ad_2 tp_p_ hd_p_ tf_p_ cf_p_ g o_3) := hD
    rcases hw9 with ⟨rfl, hw⟩ | ⟨rfl, hw⟩ | ⟨rfl, hw⟩ | ⟨rfl, hw⟩
    · refine vx_catch (own := RL) (name := "java/lang/IndexOutOfBoundsException") (E := "java/lang/IndexOutOfBoundsException") hown [⟨0, 100, 249, 82⟩, ⟨101, 111, 249, 82⟩, ⟨112, 122, 249, 82⟩, ⟨123, 129, 249, 82⟩, ⟨130, 138, 249, 82⟩, ⟨139, 145, 249, 82⟩, ⟨146, 154, 249, 82⟩, ⟨155, 161, 249, 82⟩, ⟨162, 168, 249, 82⟩, ⟨169, 174, 249, 82⟩, ⟨175, 179, 249, 82⟩, ⟨180, 185, 249, 82⟩, ⟨186, 195, 249, 82⟩, ⟨196, 202, 249, 82⟩, ⟨203, 209, 249, 82⟩, ⟨210, 216, 249, 82⟩, ⟨217, 221, 249, 82⟩] ⟨222, 228, 249, 82⟩ [⟨229, 239, 249, 82⟩, ⟨240, 248, 249, 82⟩, ⟨0, 100, 255, 84⟩, ⟨101, 111, 255, 84⟩, ⟨112, 122, 255, 84⟩, ⟨123, 129, 255, 84⟩, ⟨130, 138, 255, 84⟩, ⟨139, 145, 255, 84⟩, ⟨146, 154, 255, 84⟩, ⟨155, 161, 255, 84⟩, ⟨162, 168, 255, 84⟩, ⟨169, 174, 255, 84⟩, ⟨175, 179, 255, 84⟩, ⟨180, 185, 255, 84⟩, ⟨186, 195, 255, 84⟩, ⟨196, 202, 255, 84⟩, ⟨203, 209, 255, 84⟩, ⟨210, 216, 255, 84⟩, ⟨217, 221, 255, 84⟩, ⟨222, 228, 255, 84⟩, ⟨229, 239, 255, 84⟩, ⟨240, 248, 255, 84⟩, ⟨0, 100, 261, 86⟩, ⟨101, 111, 261, 86⟩, ⟨112, 122, 261, 86⟩, ⟨123, 129, 261, 86⟩, ⟨130, 138, 261, 86⟩, ⟨139, 145, 261, 86⟩, ⟨146, 154, 261, 86⟩, ⟨155, 161, 261, 86⟩, ⟨162, 168, 261, 86⟩, ⟨169, 174, 261, 86⟩, ⟨175, 179, 261, 86⟩, ⟨180, 185, 261, 86⟩, ⟨186, 195, 261, 86⟩, ⟨196, 202, 261, 86⟩, ⟨203, 209, 261, 86⟩, ⟨210, 216, 261, 86⟩, ⟨217, 221, 261, 86⟩, ⟨222, 228, 261, 86⟩, ⟨229, 239, 261, 86⟩, ⟨240, 248, 261, 86⟩, ⟨0, 100, 267, 88⟩, ⟨101, 111, 267, 88⟩, ⟨112, 122, 267, 88⟩, ⟨123, 129, 267, 88⟩, ⟨130, 138, 267, 88⟩, ⟨139, 145, 267, 88⟩, ⟨146, 154, 267, 88⟩, ⟨155, 161, 267, 88⟩, ⟨162, 168, 267, 88⟩, ⟨169, 174, 267, 88⟩, ⟨175, 179, 267, 88⟩, ⟨180, 185, 267, 88⟩, ⟨186, 195, 267, 88⟩, ⟨196, 202, 267, 88⟩, ⟨203, 209, 267, 88⟩, ⟨210, 216, 267, 88⟩, ⟨217, 221, 267, 88⟩, ⟨222, 228, 267, 88⟩, ⟨229, 239, 267, 88⟩, ⟨240, 248, 267, 88⟩] (by rw [hTab]; rfl) (fun z hz => (List.mem_cons.mp hz).elim (fun q => by subst q; exact Or.inl (by decide)) (fun hz => (List.mem_cons.mp hz).elim (fun q => by subst q; exact Or.inl (by decide)) (fun hz => (List.mem_cons.mp hz).elim (fun q => by subst q; exact Or.inl (by decide)) (fun hz => (List.mem_cons.mp hz).elim (fun q => by subst q; exact Or.inl (by decide)) (fun hz => (List.mem_cons.mp hz).elim (fun q => by subst q; exact Or.inl (by decide)) (fun hz => (List.mem_cons.mp hz).elim (fun q => by subst q; exact Or.inl (by decide)) (fun hz => (List.mem_cons.mp hz).elim (fun q => by subst q; exact Or.inl (by decide)) (fun hz => (List.mem_cons.mp hz).elim (fun q => by subst q; exact Or.inl (by decide)) (fun hz => (List.mem_cons.mp hz).elim (fun q => by subst q; exact Or.inl (by decide)) (fun hz => (List.mem_cons.mp hz).elim (fun q => by subst q; exact Or.inl (by decide)) (fun hz => (List.mem_cons.mp hz).elim (fun q => by subst q; exact Or.inl (by decide)) (fun hz => (List.mem_cons.mp hz).elim (fun q => by subst q; exact Or.inl (by decide)) (fun hz => (List.mem_cons.mp hz).elim (fun q => by subst q; exact Or.inl (by decide)) (fun hz => (List.mem_cons.mp hz).elim (fun q => by subst q; exact Or.inl (by decide)) (fun hz => (List.mem_cons.mp hz).elim (fun q => by subst q; exact Or.inl (by decide)) (fun hz => (List.mem_cons.mp hz).elim (fun q => by subst q; exact Or.inl (by decide)) (fun hz => (List.mem_cons.mp hz).elim (fun q => by subst q; exact Or.inl (by decide)) (fun hz => absurd hz List.not_mem_nil)))))))))))))))))) (by decide) (by decide) hxl82 (xc_0 hG) hce hcv hcl ?_
      have hS := hS9
      have ht_1 := ht
      refine lv_astore (lv' := [(5, .ref q9), (0, .ref t_p_), (1, .int 17), (2, .int a_), (3, .int b_), (4, .int c_)]) hx hb dL_asks_249 hl (by decide) rfl (fun ls hl => ?_)
      refine lv_sipush (v := (-20001)) hx hb dL_asks_251 (by decide) ?_
      refine W.widen (k := 1) (n := 6) (by omega) (by omega) ?_
      exact W.iret (v := (-20001)) hx hb hr (fun t ht hW => ⟨⟨(-20001), (ad_2, o_3, ()), rfl, ⟨hw, had_2⟩, ⟨P_at ht hP, hD⟩⟩, hS.F ht⟩) hS.2.2 dL_asks_254
    · refine vx_catch (own := RL) (name := "java/util/NoSuchElementException") (E := "java/util/NoSuchElementException") hown [⟨0, 100, 249, 82⟩, ⟨101, 111, 249, 82⟩, ⟨112, 122, 249, 82⟩, ⟨123, 129, 249, 82⟩, ⟨130, 138, 249, 82⟩, ⟨139, 145, 249, 82⟩, ⟨146, 154, 249, 82⟩, ⟨155, 161, 249, 82⟩, ⟨162, 168, 249, 82⟩, ⟨169, 174, 249, 82⟩, ⟨175, 179, 249, 82⟩, ⟨180, 185, 249, 82⟩, ⟨186, 195, 249, 82⟩, ⟨196, 202, 249, 82⟩, ⟨203, 209, 249, 82⟩, ⟨210, 216, 249, 82⟩, ⟨217, 221, 249, 82⟩, ⟨222, 228, 249, 82⟩, ⟨229, 239, 249, 82⟩, ⟨240, 248, 249, 82⟩, ⟨0, 100, 255, 84⟩, ⟨101, 111, 255, 84⟩, ⟨112, 122, 255, 84⟩, ⟨123, 129, 255, 84⟩, ⟨130, 138, 255, 84⟩, ⟨139, 145, 255, 84⟩, ⟨146, 154, 255, 84⟩, ⟨155, 161, 255, 84⟩, ⟨162, 168, 255, 84⟩, ⟨169, 174, 255, 84⟩, ⟨175, 179, 255, 84⟩, ⟨180, 185, 255, 84⟩, ⟨186, 195, 255, 84⟩, ⟨196, 202, 255, 84⟩, ⟨203, 209, 255, 84⟩, ⟨210, 216, 255, 84⟩, ⟨217, 221, 255, 84⟩] ⟨222, 228, 255, 84⟩ [⟨229, 239, 255, 84⟩, ⟨240, 248, 255, 84⟩, ⟨0, 100, 261, 86⟩, ⟨101, 111, 261, 86⟩, ⟨112, 122, 261, 86⟩, ⟨123, 129, 261, 86⟩, ⟨130, 138, 261, 86⟩, ⟨139, 145, 261, 86⟩, ⟨146, 154, 261, 86⟩, ⟨155, 161, 261, 86⟩, ⟨162, 168, 261, 86⟩, ⟨169, 174, 261, 86⟩, ⟨175, 179, 261, 86⟩, ⟨180, 185, 261, 86⟩, ⟨186, 195, 261, 86⟩, ⟨196, 202, 261, 86⟩, ⟨203, 209, 261, 86⟩, ⟨210, 216, 261, 86⟩, ⟨217, 221, 261, 86⟩, ⟨222, 228, 261, 86⟩, ⟨229, 239, 261, 86⟩, ⟨240, 248, 261, 86⟩, ⟨0, 100, 267, 88⟩, ⟨101, 111, 267, 88⟩, ⟨112, 122, 267, 88⟩, ⟨123, 129, 267, 88⟩, ⟨130, 138, 267, 88⟩, ⟨139, 145, 267, 88⟩, ⟨146, 154, 267, 88⟩, ⟨155, 161, 267, 88⟩, ⟨162, 168, 267, 88⟩, ⟨169, 174, 267, 88⟩, ⟨175, 179, 267, 88⟩, ⟨180, 185, 267, 88⟩, ⟨186, 195, 267, 88⟩, ⟨196, 202, 267, 88⟩, ⟨203, 209, 267, 88⟩, ⟨210, 216, 267, 88⟩, ⟨217, 221, 267, 88⟩, ⟨222, 228, 267, 88⟩, ⟨229, 239, 267, 88⟩, ⟨240, 248, 267, 88⟩] (by rw [hTab]; rfl) (fun z hz => (List.mem_cons.mp hz).elim (fun q => by subst q; exact Or.inl (by decide)) (fun hz => (List.mem_cons.mp hz).elim (fun q => by subst q; exact Or.inl (by decide)) (fun hz => (List.mem_cons.mp hz).elim (fun q => by subst q; exact Or.inl (by decide)) (fun hz => (List.mem_cons.mp hz).elim (fun q => by subst q; exact Or.inl (by decide)) (fun hz => (List.mem_cons.mp hz).elim (fun q => by subst q; exact Or.inl (by decide)) (fun hz => (List.mem_cons.mp hz).elim (fun q => by subst q; exact Or.inl (by decide)) (fun hz => (List.mem_cons.mp hz).elim (fun q => by subst q; exact Or.inl (by decide)) (fun hz => (List.mem_cons.mp hz).elim (fun q => by subst q; exact Or.inl (by decide)) (fun hz => (List.mem_cons.mp hz).elim (fun q => by subst q; exact Or.inl (by decide)) (fun hz => (List.mem_cons.mp hz).elim (fun q => by subst q; exact Or.inl (by decide)) (fun hz => (List.mem_cons.mp hz).elim (fun q => by subst q; exact Or.inl (by decide)) (fun hz => (List.mem_cons.mp hz).elim (fun q => by subst q; exact Or.inl (by decide)) (fun hz => (List.mem_cons.mp hz).elim (fun q => by subst q; exact Or.inl (by decide)) (fun hz => (List.mem_cons.mp hz).elim (fun q => by subst q; exact Or.inl (by decide)) (fun hz => (List.mem_cons.mp hz).elim (fun q => by subst q; exact Or.inl (by decide)) (fun hz => (List.mem_cons.mp hz).elim (fun q => by subst q; exact Or.inl (by decide)) (fun hz => (List.mem_cons.mp hz).elim (fun q => by subst q; exact Or.inl (by decide)) (fun hz => (List.mem_cons.mp hz).elim (fun q => by subst q; exact Or.inr ⟨by decide, _, hxl82, nc_0 hG⟩) (fun hz => (List.mem_cons.mp hz).elim (fun q => by subst q; exact Or.inl (by decide)) (fun hz => (List.mem_cons.mp hz).elim (fun q => by subst q; exact Or.inl (by decide)) (fun hz => (List.mem_cons.mp hz).elim (fun q => by subst q; exact Or.inl (by decide)) (fun hz => (List.mem_cons.mp hz).elim (fun q => by subst q; exact Or.inl (by decide)) (fun hz => (List.mem_cons.mp hz).elim (fun q => by subst q; exact Or.inl (by decide)) (fun hz => (List.mem_cons.mp hz).elim (fun q => by subst q; exact Or.inl (by decide)) (fun hz => (List.mem_cons.mp hz).elim (fun q => by subst q; exact Or.inl (by decide)) (fun hz => (List.mem_cons.mp hz).elim (fun q => by subst q; exact Or.inl (by decide)) (fun hz => (List.mem_cons.mp hz).elim (fun q => by subst q; exact Or.inl (by decide)) (fun hz => (List.mem_cons.mp hz).elim (fun q => by subst q; exact Or.inl (by decide)) (fun hz => (List.mem_cons.mp hz).elim (fun q => by subst q; exact Or.inl (by decide)) (fun hz => (List.mem_cons.mp hz).elim (fun q => by subst q; exact Or.inl (by decide)) (fun hz => (List.mem_cons.mp hz).elim (fun q => by subst q; exact Or.inl (by decide)) (fun hz => (List.mem_cons.mp hz).elim (fun q => by subst q; exact Or.inl (by decide)) (fun hz => (List.mem_cons.mp hz).elim (fun q => by subst q; exact Or.inl (by decide)) (fun hz => (List.mem_cons.mp hz).elim (fun q => by subst q; exact Or.inl (by decide)) (fun hz => (List.mem_cons.mp hz).elim (fun q => by subst q; exact Or.inl (by decide)) (fun hz => (List.mem_cons.mp hz).elim (fun q => by subst q; exact Or.inl (by decide)) (fun hz => (List.mem_cons.mp hz).elim (fun q => by subst q; exact Or.inl (by decide)) (fun hz => absurd hz List.not_mem_nil)))))))))))))))))))))))))))))))))))))) (by decide) (by decide) hxl84 (xc_3 hG) hce hcv hcl ?_
      have hS := hS9
      have ht_1 := ht
      refine lv_astore (lv' := [(5, .ref q9), (0, .ref t_p_), (1, .int 17), (2, .int a_), (3, .int b_), (4, .int c_)]) hx hb dL_asks_255 hl (by decide) rfl (fun ls hl => ?_)
      refine lv_sipush (v := (-20002)) hx hb dL_asks_257 (by decide) ?_
      refine W.widen (k := 1) (n := 6) (by omega) (by omega) ?_
      exact W.iret (v := (-20002)) hx hb hr (fun t ht hW => ⟨⟨(-20002), (ad_2, o_3, ()), rfl, ⟨hw, had_2⟩, ⟨P_at ht hP, hD⟩⟩, hS.F ht⟩) hS.2.2 dL_asks_260
    · refine vx_catch (own := RL) (name := "java/lang/IllegalArgumentException") (E := "java/lang/IllegalArgumentException") hown [⟨0, 100, 249, 82⟩, ⟨101, 111, 249, 82⟩, ⟨112, 122, 249, 82⟩, ⟨123, 129, 249, 82⟩, ⟨130, 138, 249, 82⟩, ⟨139, 145, 249, 82⟩, ⟨146, 154, 249, 82⟩, ⟨155, 161, 249, 82⟩, ⟨162, 168, 249, 82⟩, ⟨169, 174, 249, 82⟩, ⟨175, 179, 249, 82⟩, ⟨180, 185, 249, 82⟩, ⟨186, 195, 249, 82⟩, ⟨196, 202, 249, 82⟩, ⟨203, 209, 249, 82⟩, ⟨210, 216, 249, 82⟩, ⟨217, 221, 249, 82⟩, ⟨222, 228, 249, 82⟩, ⟨229, 239, 249, 82⟩, ⟨240, 248, 249, 82⟩, ⟨0, 100, 255, 84⟩, ⟨101, 111, 255, 84⟩, ⟨112, 122, 255, 84⟩, ⟨123, 129, 255, 84⟩, ⟨130, 138, 255, 84⟩, ⟨139, 145, 255, 84⟩, ⟨146, 154, 255, 84⟩, ⟨155, 161, 255, 84⟩, ⟨162, 168, 255, 84⟩, ⟨169, 174, 255, 84⟩, ⟨175, 179, 255, 84⟩, ⟨180, 185, 255, 84⟩, ⟨186, 195, 255, 84⟩, ⟨196, 202, 255, 84⟩, ⟨203, 209, 255, 84⟩, ⟨210, 216, 255, 84⟩, ⟨217, 221, 255, 84⟩, ⟨222, 228, 255, 84⟩, ⟨229, 239, 255, 84⟩, ⟨240, 248, 255, 84⟩, ⟨0, 100, 261, 86⟩, ⟨101, 111, 261, 86⟩, ⟨112, 122, 261, 86⟩, ⟨123, 129, 261, 86⟩, ⟨130, 138, 261, 86⟩, ⟨139, 145, 261, 86⟩, ⟨146, 154, 261, 86⟩, ⟨155, 161, 261, 86⟩, ⟨162, 168, 261, 86⟩, ⟨169, 174, 261, 86⟩, ⟨175, 179, 261, 86⟩, ⟨180, 185, 261, 86⟩, ⟨186, 195, 261, 86⟩, ⟨196, 202, 261, 86⟩, ⟨203, 209, 261, 86⟩, ⟨210, 216, 261, 86⟩, ⟨217, 221, 261, 86⟩] ⟨222, 228, 261, 86⟩ [⟨229, 239, 261, 86⟩, ⟨240, 248, 261, 86⟩, ⟨0, 100, 267, 88⟩, ⟨101, 111, 267, 88⟩, ⟨112, 122, 267, 88⟩, ⟨123, 129, 267, 88⟩, ⟨130, 138, 267, 88⟩, ⟨139, 145, 267, 88⟩, ⟨146, 154, 267, 88⟩, ⟨155, 161, 267, 88⟩, ⟨162, 168, 267, 88⟩, ⟨169, 174, 267, 88⟩, ⟨175, 179, 267, 88⟩, ⟨180, 185, 267, 88⟩, ⟨186, 195, 267, 88⟩, ⟨196, 202, 267, 88⟩, ⟨203, 209, 267, 88⟩, ⟨210, 216, 267, 88⟩, ⟨217, 221, 267, 88⟩, ⟨222, 228, 267, 88⟩, ⟨229, 239, 267, 88⟩, ⟨240, 248, 267, 88⟩] (by rw [hTab]; rfl) (fun z hz => (List.mem_cons.mp hz).elim (fun q => by subst q; exact Or.inl (by decide)) (fun hz => (List.mem_cons.mp hz).elim (fun q => by subst q; exact Or.inl (by decide)) (fun hz => (List.mem_cons.mp hz).elim (fun q => by subst q; exact Or.inl (by decide)) (fun hz => (List.mem_cons.mp hz).elim (fun q => by subst q; exact Or.inl (by decide)) (fun hz => (List.mem_cons.mp hz).elim (fun q => by subst q; exact Or.inl (by decide)) (fun hz => (List.mem_cons.mp hz).elim (fun q => by subst q; exact Or.inl (by decide)) (fun hz => (List.mem_cons.mp hz).elim (fun q => by subst q; exact Or.inl (by decide)) (fun hz => (List.mem_cons.mp hz).elim (fun q => by subst q; exact Or.inl (by decide)) (fun hz => (List.mem_cons.mp hz).elim (fun q => by subst q; exact Or.inl (by decide)) (fun hz => (List.mem_cons.mp hz).elim (fun q => by subst q; exact Or.inl (by decide)) (fun hz => (List.mem_cons.mp hz).elim (fun q => by subst q; exact Or.inl (by decide)) (fun hz => (List.mem_cons.mp hz).elim (fun q => by subst q; exact Or.inl (by decide)) (fun hz => (List.mem_cons.mp hz).elim (fun q => by subst q; exact Or.inl (by decide)) (fun hz => (List.mem_cons.mp hz).elim (fun q => by subst q; exact Or.inl (by decide)) (fun hz => (List.mem_cons.mp hz).elim (fun q => by subst q; exact Or.inl (by decide)) (fun hz => (List.mem_cons.mp hz).elim (fun q => by subst q; exact Or.inl (by decide)) (fun hz => (List.mem_cons.mp hz).elim (fun q => by subst q; exact Or.inl (by decide)) (fun hz => (List.mem_cons.mp hz).elim (fun q => by subst q; exact Or.inr ⟨by decide, _, hxl82, nc_1 hG⟩) (fun hz => (List.mem_cons.mp hz).elim (fun q => by subst q; exact Or.inl (by decide)) (fun hz => (List.mem_cons.mp hz).elim (fun q => by subst q; exact Or.inl (by decide)) (fun hz => (List.mem_cons.mp hz).elim (fun q => by subst q; exact Or.inl (by decide)) (fun hz => (List.mem_cons.mp hz).elim (fun q => by subst q; exact Or.inl (by decide)) (fun hz => (List.mem_cons.mp hz).elim (fun q => by subst q; exact Or.inl (by decide)) (fun hz => (List.mem_cons.mp hz).elim (fun q => by subst q; exact Or.inl (by decide)) (fun hz => (List.mem_cons.mp hz).elim (fun q => by subst q; exact Or.inl (by decide)) (fun hz => (List.mem_cons.mp hz).elim (fun q => by subst q; exact Or.inl (by decide)) (fun hz => (List.mem_cons.mp hz).elim (fun q => by subst q; exact Or.inl (by decide)) (fun hz => (List.mem_cons.mp hz).elim (fun q => by subst q; exact Or.inl (by decide)) (fun hz => (List.mem_cons.mp hz).elim (fun q => by subst q; exact Or.inl (by decide)) (fun hz => (List.mem_cons.mp hz).elim (fun q => by subst q; exact Or.inl (by decide)) (fun hz => (List.mem_cons.mp hz).elim (fun q => by subst q; exact Or.inl (by decide)) (fun hz => (List.mem_cons.mp hz).elim (fun q => by subst q; exact Or.inl (by decide)) (fun hz => (List.mem_cons.mp hz).elim (fun q => by subst q; exact Or.inl (by decide)) (fun hz => (List.mem_cons.mp hz).elim (fun q => by subst q; exact Or.inl (by decide)) (fun hz => (List.mem_cons.mp hz).elim (fun q => by subst q; exact Or.inl (by decide)) (fun hz => (List.mem_cons.mp hz).elim (fun q => by subst q; exact Or.inl (by decide)) (fun hz => (List.mem_cons.mp hz).elim (fun q => by subst q; exact Or.inl (by decide)) (fun hz => (List.mem_cons.mp hz).elim (fun q => by subst q; exact Or.inr ⟨by decide, _, hxl84, nc_2 hG⟩) (fun hz => (List.mem_cons.mp hz).elim (fun q => by subst q; exact Or.inl (by decide)) (fun hz => (List.mem_cons.mp hz).elim (fun q => by subst q; exact Or.inl (by decide)) (fun hz => (List.mem_cons.mp hz).elim (fun q => by subst q; exact Or.inl (by decide)) (fun hz => (List.mem_cons.mp hz).elim (fun q => by subst q; exact Or.inl (by decide)) (fun hz => (List.mem_cons.mp hz).elim (fun q => by subst q; exact Or.inl (by decide)) (fun hz => (List.mem_cons.mp hz).elim (fun q => by subst q; exact Or.inl (by decide)) (fun hz => (List.mem_cons.mp hz).elim (fun q => by subst q; exact Or.inl (by decide)) (fun hz => (List.mem_cons.mp hz).elim (fun q => by subst q; exact Or.inl (by decide)) (fun hz => (List.mem_cons.mp hz).elim (fun q => by subst q; exact Or.inl (by decide)) (fun hz => (List.mem_cons.mp hz).elim (fun q => by subst q; exact Or.inl (by decide)) (fun hz => (List.mem_cons.mp hz).elim (fun q => by subst q; exact Or.inl (by decide)) (fun hz => (List.mem_cons.mp hz).elim (fun q => by subst q; exact Or.inl (by decide)) (fun hz => (List.mem_cons.mp hz).elim (fun q => by subst q; exact Or.inl (by decide)) (fun hz => (List.mem_cons.mp hz).elim (fun q => by subst q; exact Or.inl (by decide)) (fun hz => (List.mem_cons.mp hz).elim (fun q => by subst q; exact Or.inl (by decide)) (fun hz => (List.mem_cons.mp hz).elim (fun q => by subst q; exact Or.inl (by decide)) (fun hz => (List.mem_cons.mp hz).elim (fun q => by subst q; exact Or.inl (by decide)) (fun hz => (List.mem_cons.mp hz).elim (fun q => by subst q; exact Or.inl (by decide)) (fun hz => (List.mem_cons.mp hz).elim (fun q => by subst q; exact Or.inl (by decide)) (fun hz => absurd hz List.not_mem_nil)))))))))))))))))))))))))))))))))))))))))))))))))))))))))) (by decide) (by decide) hxl86 (xc_1 hG) hce hcv hcl ?_
      have hS := hS9
      have ht_1 := ht
      refine lv_astore (lv' := [(5, .ref q9), (0, .ref t_p_), (1, .int 17), (2, .int a_), (3, .int b_), (4, .int c_)]) hx hb dL_asks_261 hl (by decide) rfl (fun ls hl => ?_)
      refine lv_sipush (v := (-20003)) hx hb dL_asks_263 (by decide) ?_
      refine W.widen (k := 1) (n := 6) (by omega) (by omega) ?_
      exact W.iret (v := (-20003)) hx hb hr (fun t ht hW => ⟨⟨(-20003), (ad_2, o_3, ()), rfl, ⟨hw, had_2⟩, ⟨P_at ht hP, hD⟩⟩, hS.F ht⟩) hS.2.2 dL_asks_266
    · refine vx_catch (own := RL) (name := "java/lang/IllegalStateException") (E := "java/lang/IllegalStateException") hown [⟨0, 100, 249, 82⟩, ⟨101, 111, 249, 82⟩, ⟨112, 122, 249, 82⟩, ⟨123, 129, 249, 82⟩, ⟨130, 138, 249, 82⟩, ⟨139, 145, 249, 82⟩, ⟨146, 154, 249, 82⟩, ⟨155, 161, 249, 82⟩, ⟨162, 168, 249, 82⟩, ⟨169, 174, 249, 82⟩, ⟨175, 179, 249, 82⟩, ⟨180, 185, 249, 82⟩, ⟨186, 195, 249, 82⟩, ⟨196, 202, 249, 82⟩, ⟨203, 209, 249, 82⟩, ⟨210, 216, 249, 82⟩, ⟨217, 221, 249, 82⟩, ⟨222, 228, 249, 82⟩, ⟨229, 239, 249, 82⟩, ⟨240, 248, 249, 82⟩, ⟨0, 100, 255, 84⟩, ⟨101, 111, 255, 84⟩, ⟨112, 122, 255, 84⟩, ⟨123, 129, 255, 84⟩, ⟨130, 138, 255, 84⟩, ⟨139, 145, 255, 84⟩, ⟨146, 154, 255, 84⟩, ⟨155, 161, 255, 84⟩, ⟨162, 168, 255, 84⟩, ⟨169, 174, 255, 84⟩, ⟨175, 179, 255, 84⟩, ⟨180, 185, 255, 84⟩, ⟨186, 195, 255, 84⟩, ⟨196, 202, 255, 84⟩, ⟨203, 209, 255, 84⟩, ⟨210, 216, 255, 84⟩, ⟨217, 221, 255, 84⟩, ⟨222, 228, 255, 84⟩, ⟨229, 239, 255, 84⟩, ⟨240, 248, 255, 84⟩, ⟨0, 100, 261, 86⟩, ⟨101, 111, 261, 86⟩, ⟨112, 122, 261, 86⟩, ⟨123, 129, 261, 86⟩, ⟨130, 138, 261, 86⟩, ⟨139, 145, 261, 86⟩, ⟨146, 154, 261, 86⟩, ⟨155, 161, 261, 86⟩, ⟨162, 168, 261, 86⟩, ⟨169, 174, 261, 86⟩, ⟨175, 179, 261, 86⟩, ⟨180, 185, 261, 86⟩, ⟨186, 195, 261, 86⟩, ⟨196, 202, 261, 86⟩, ⟨203, 209, 261, 86⟩, ⟨210, 216, 261, 86⟩, ⟨217, 221, 261, 86⟩, ⟨222, 228, 261, 86⟩, ⟨229, 239, 261, 86⟩, ⟨240, 248, 261, 86⟩, ⟨0, 100, 267, 88⟩, ⟨101, 111, 267, 88⟩, ⟨112, 122, 267, 88⟩, ⟨123, 129, 267, 88⟩, ⟨130, 138, 267, 88⟩, ⟨139, 145, 267, 88⟩, ⟨146, 154, 267, 88⟩, ⟨155, 161, 267, 88⟩, ⟨162, 168, 267, 88⟩, ⟨169, 174, 267, 88⟩, ⟨175, 179, 267, 88⟩, ⟨180, 185, 267, 88⟩, ⟨186, 195, 267, 88⟩, ⟨196, 202, 267, 88⟩, ⟨203, 209, 267, 88⟩, ⟨210, 216, 267, 88⟩, ⟨217, 221, 267, 88⟩] ⟨222, 228, 267, 88⟩ [⟨229, 239, 267, 88⟩, ⟨240, 248, 267, 88⟩] (by rw [hTab]; rfl) (fun z hz => (List.mem_cons.mp hz).elim (fun q => by subst q; exact Or.inl (by decide)) (fun hz => (List.mem_cons.mp hz).elim (fun q => by subst q; exact Or.inl (by decide)) (fun hz => (List.mem_cons.mp hz).elim (fun q => by subst q; exact Or.inl (by decide)) (fun hz => (List.mem_cons.mp hz).elim (fun q => by subst q; exact Or.inl (by decide)) (fun hz => (List.mem_cons.mp hz).elim (fun q => by subst q; exact Or.inl (by decide)) (fun hz => (List.mem_cons.mp hz).elim (fun q => by subst q; exact Or.inl (by decide)) (fun hz => (List.mem_cons.mp hz).elim (fun q => by subst q; exact Or.inl (by decide)) (fun hz => (List.mem_cons.mp hz).elim (fun q => by subst q; exact Or.inl (by decide)) (fun hz => (List.mem_cons.mp hz).elim (fun q => by subst q; exact Or.inl (by decide)) (fun hz => (List.mem_cons.mp hz).elim (fun q => by subst q; exact Or.inl (by decide)) (fun hz => (List.mem_cons.mp hz).elim (fun q => by subst q; exact Or.inl (by decide)) (fun hz => (List.mem_cons.mp hz).elim (fun q => by subst q; exact Or.inl (by decide)) (fun hz => (List.mem_cons.mp hz).elim (fun q => by subst q; exact Or.inl (by decide)) (fun hz => (List.mem_cons.mp hz).elim (fun q => by subst q; exact Or.inl (by decide)) (fun hz => (List.mem_cons.mp hz).elim (fun q => by subst q; exact Or.inl (by decide)) (fun hz => (List.mem_cons.mp hz).elim (fun q => by subst q; exact Or.inl (by decide)) (fun hz => (List.mem_cons.mp hz).elim (fun q => by subst q; exact Or.inl (by decide)) (fun hz => (List.mem_cons.mp hz).elim (fun q => by subst q; exact Or.inr ⟨by decide, _, hxl82, nc_3 hG⟩) (fun hz => (List.mem_cons.mp hz).elim (fun q => by subst q; exact Or.inl (by decide)) (fun hz => (List.mem_cons.mp hz).elim (fun q => by subst q; exact Or.inl (by decide)) (fun hz => (List.mem_cons.mp hz).elim (fun q => by subst q; exact Or.inl (by decide)) (fun hz => (List.mem_cons.mp hz).elim (fun q => by subst q; exact Or.inl (by decide)) (fun hz => (List.mem_cons.mp hz).elim (fun q => by subst q; exact Or.inl (by decide)) (fun hz => (List.mem_cons.mp hz).elim (fun q => by subst q; exact Or.inl (by decide)) (fun hz => (List.mem_cons.mp hz).elim (fun q => by subst q; exact Or.inl (by decide)) (fun hz => (List.mem_cons.mp hz).elim (fun q => by subst q; exact Or.inl (by decide)) (fun hz => (List.mem_cons.mp hz).elim (fun q => by subst q; exact Or.inl (by decide)) (fun hz => (List.mem_cons.mp hz).elim (fun q => by subst q; exact Or.inl (by decide)) (fun hz => (List.mem_cons.mp hz).elim (fun q => by subst q; exact Or.inl (by decide)) (fun hz => (List.mem_cons.mp hz).elim (fun q => by subst q; exact Or.inl (by decide)) (fun hz => (List.mem_cons.mp hz).elim (fun q => by subst q; exact Or.inl (by decide)) (fun hz => (List.mem_cons.mp hz).elim (fun q => by subst q; exact Or.inl (by decide)) (fun hz => (List.mem_cons.mp hz).elim (fun q => by subst q; exact Or.inl (by decide)) (fun hz => (List.mem_cons.mp hz).elim (fun q => by subst q; exact Or.inl (by decide)) (fun hz => (List.mem_cons.mp hz).elim (fun q => by subst q; exact Or.inl (by decide)) (fun hz => (List.mem_cons.mp hz).elim (fun q => by subst q; exact Or.inl (by decide)) (fun hz => (List.mem_cons.mp hz).elim (fun q => by subst q; exact Or.inl (by decide)) (fun hz => (List.mem_cons.mp hz).elim (fun q => by subst q; exact Or.inr ⟨by decide, _, hxl84, nc_4 hG⟩) (fun hz => (List.mem_cons.mp hz).elim (fun q => by subst q; exact Or.inl (by decide)) (fun hz => (List.mem_cons.mp hz).elim (fun q => by subst q; exact Or.inl (by decide)) (fun hz => (List.mem_cons.mp hz).elim (fun q => by subst q; exact Or.inl (by decide)) (fun hz => (List.mem_cons.mp hz).elim (fun q => by subst q; exact Or.inl (by decide)) (fun hz => (List.mem_cons.mp hz).elim (fun q => by subst q; exact Or.inl (by decide)) (fun hz => (List.mem_cons.mp hz).elim (fun q => by subst q; exact Or.inl (by decide)) (fun hz => (List.mem_cons.mp hz).elim (fun q => by subst q; exact Or.inl (by decide)) (fun hz => (List.mem_cons.mp hz).elim (fun q => by subst q; exact Or.inl (by decide)) (fun hz => (List.mem_cons.mp hz).elim (fun q => by subst q; exact Or.inl (by decide)) (fun hz => (List.mem_cons.mp hz).elim (fun q => by subst q; exact Or.inl (by decide)) (fun hz => (List.mem_cons.mp hz).elim (fun q => by subst q; exact Or.inl (by decide)) (fun hz => (List.mem_cons.mp hz).elim (fun q => by subst q; exact Or.inl (by decide)) (fun hz => (List.mem_cons.mp hz).elim (fun q => by subst q; exact Or.inl (by decide)) (fun hz => (List.mem_cons.mp hz).elim (fun q => by subst q; exact Or.inl (by decide)) (fun hz => (List.mem_cons.mp hz).elim (fun q => by subst q; exact Or.inl (by decide)) (fun hz => (List.mem_cons.mp hz).elim (fun q => by subst q; exact Or.inl (by decide)) (fun hz => (List.mem_cons.mp hz).elim (fun q => by subst q; exact Or.inl (by decide)) (fun hz => (List.mem_cons.mp hz).elim (fun q => by subst q; exact Or.inl (by decide)) (fun hz => (List.mem_cons.mp hz).elim (fun q => by subst q; exact Or.inl (by decide)) (fun hz => (List.mem_cons.mp hz).elim (fun q => by subst q; exact Or.inr ⟨by decide, _, hxl86, nc_5 hG⟩) (fun hz => (List.mem_cons.mp hz).elim (fun q => by subst q; exact Or.inl (by decide)) (fun hz => (List.mem_cons.mp hz).elim (fun q => by subst q; exact Or.inl (by decide)) (fun hz => (List.mem_cons.mp hz).elim (fun q => by subst q; exact Or.inl (by decide)) (fun hz => (List.mem_cons.mp hz).elim (fun q => by subst q; exact Or.inl (by decide)) (fun hz => (List.mem_cons.mp hz).elim (fun q => by subst q; exact Or.inl (by decide)) (fun hz => (List.mem_cons.mp hz).elim (fun q => by subst q; exact Or.inl (by decide)) (fun hz => (List.mem_cons.mp hz).elim (fun q => by subst q; exact Or.inl (by decide)) (fun hz => (List.mem_cons.mp hz).elim (fun q => by subst q; exact Or.inl (by decide)) (fun hz => (List.mem_cons.mp hz).elim (fun q => by subst q; exact Or.inl (by decide)) (fun hz => (List.mem_cons.mp hz).elim (fun q => by subst q; exact Or.inl (by decide)) (fun hz => (List.mem_cons.mp hz).elim (fun q => by subst q; exact Or.inl (by decide)) (fun hz => (List.mem_cons.mp hz).elim (fun q => by subst q; exact Or.inl (by decide)) (fun hz => (List.mem_cons.mp hz).elim (fun q => by subst q; exact Or.inl (by decide)) (fun hz => (List.mem_cons.mp hz).elim (fun q => by subst q; exact Or.inl (by decide)) (fun hz => (List.mem_cons.mp hz).elim (fun q => by subst q; exact Or.inl (by decide)) (fun hz => (List.mem_cons.mp hz).elim (fun q => by subst q; exact Or.inl (by decide)) (fun hz => (List.mem_cons.mp hz).elim (fun q => by subst q; exact Or.inl (by decide)) (fun hz => (List.mem_cons.mp hz).elim (fun q => by subst q; exact Or.inl (by decide)) (fun hz => (List.mem_cons.mp hz).elim (fun q => by subst q; exact Or.inl (by decide)) (fun hz => absurd hz List.not_mem_nil)))))))))))))))))))))))))))))))))))))))))))))))))))))))))))))))))))))))))))))) (by decide) (by decide) hxl88 (xc_2 hG) hce hcv hcl ?_
      have hS := hS9
      have ht_1 := ht
      refine lv_astore (lv' := [(5, .ref q9), (0, .ref t_p_), (1, .int 17), (2, .int a_), (3, .int b_), (4, .int c_)]) hx hb dL_asks_267 hl (by decide) rfl (fun ls hl => ?_)
      refine lv_sipush (v := (-20004)) hx hb dL_asks_269 (by decide) ?_
      refine W.widen (k := 1) (n := 6) (by omega) (by omega) ?_
      exact W.iret (v := (-20004)) hx hb hr (fun t ht hW => ⟨⟨(-20004), (ad_2, o_3, ()), rfl, ⟨hw, had_2⟩, ⟨P_at ht hP, hD⟩⟩, hS.F ht⟩) hS.2.2 dL_asks_272
  obtain ⟨ad_4, o_5⟩ := u_1
  obtain ⟨hw, had_4⟩ := hw_1
  rw [ht_1] at hB_1
  obtain ⟨hP1, hD1⟩ := hB_1
  obtain ⟨hP, hD⟩ := join_r hPs hDs hk_1 hFc hP1 hD1
  obtain ⟨hP, hD⟩ := seg_join [] [offS ad_4 tp_p_ hd_p_ tf_p_ cf_p_ g o_5] [offS ad_4 tp_p_ hd_p_ tf_p_ cf_p_ g o_5] 1 [0] rfl rfl (by decide) hP hD
  have hP : va_P (dC, dI) vwCl (offS ad_4 tp_p_ hd_p_ tf_p_ cf_p_ g o_5) H_1 := hP
  have hD : va_D A (offS ad_4 tp_p_ hd_p_ tf_p_ cf_p_ g o_5) := hD
  refine W.widen (k := 1) (n := 6) (by omega) (by omega) ?_
  refine W.widen (k := 1) (n := 6) (by omega) (by omega) ?_
  exact W.iret (v := r_1) hx hb hr (fun t ht hW => ⟨⟨r_1, (ad_4, o_5, ()), rfl, ⟨hw, had_4⟩, ⟨P_at ht hP, hD⟩⟩, hS.F ht⟩) hS.2.2 dL_asks_228
theorem dL_asks_229 : decode cL_asks 229 = .ok (.aload_n 0, 1) := by decide +kernel
theorem dL_asks_230 : decode cL_asks 230 = .ok (.iload_n 2, 1) := by decide +kernel
theorem dL_asks_231 : decode cL_asks 231 = .ok (.iload_n 3, 1) := by decide +kernel
theorem dL_asks_232 : decode cL_asks 232 = .ok (.bipush 7, 2) := by decide +kernel
theorem dL_asks_234 : decode cL_asks 234 = .ok (.iload 4, 2) := by decide +kernel
theorem dL_asks_236 : decode cL_asks 236 = .ok (.invokevirtual 60, 3) := by decide +kernel
theorem dL_asks_239 : decode cL_asks 239 = .ok (.ireturn, 1) := by decide +kernel

set_option maxHeartbeats 8000000 in
set_option maxRecDepth 100000 in
theorem c_L_asks_18 (l : Launch) (hlf : l.stackTraces = false) (dC : Nat → ClassId) (dI : Nat → Nat → Nat) (g : Nat → ClassId) (tp_p_ hd_p_ : Nat → Nat) (tf_p_ cf_p_ : Nat → Option Nat) (htf_p_ : ∀ j, j < 8 → tf_p_ j = some (tp_p_ j)) (hcf_p_ : ∀ j, j < 8 → cf_p_ j = some (tp_p_ (8 + j))) (a_p_ : Nat → Nat) (t_p_ : Nat) (h_p_ : a_p_ 0 = t_p_) (o_p_ : OS) (a_ : Int32) (b_ : Int32) (c_ : Int32) (Q : Int32 → OS → Prop) (hw : wp_L_asks_18 o_p_ a_ b_ c_ Q) (sz : Nat) : Met l yL_asks wqL_asks ({ frames := 8, cells := 5, slots := 30, locals := 142 }) (va_Pc [.ref t_p_, .int 18, .int a_, .int b_, .int c_] (PG (dC, dI) g (offS a_p_ tp_p_ hd_p_ tf_p_ cf_p_ g o_p_) sz)) (va_Qi (fun (r : Int32) (u : (Nat → Nat) × OS × Unit) => Q r u.2.1 ∧ u.1 0 = t_p_) (fun (u : (Nat → Nat) × OS × Unit) t9 => va_P (dC, dI) vwCl (offS u.1 tp_p_ hd_p_ tf_p_ cf_p_ g u.2.1) t9.heap ∧ va_D (va_A (offS a_p_ tp_p_ hd_p_ tf_p_ cf_p_ g o_p_) sz) (offS u.1 tp_p_ hd_p_ tf_p_ cf_p_ g u.2.1)) (va_A (offS a_p_ tp_p_ hd_p_ tf_p_ cf_p_ g o_p_) sz)) 5 30 (va_A (offS a_p_ tp_p_ hd_p_ tf_p_ cf_p_ g o_p_) sz) := by
  refine mt_ofWH (cc := cL_asks) (maxL := 6) (ret := (some .int)) (hh := [(0, 100, 249, 82), (101, 111, 249, 82), (112, 122, 249, 82), (123, 129, 249, 82), (130, 138, 249, 82), (139, 145, 249, 82), (146, 154, 249, 82), (155, 161, 249, 82), (162, 168, 249, 82), (169, 174, 249, 82), (175, 179, 249, 82), (180, 185, 249, 82), (186, 195, 249, 82), (196, 202, 249, 82), (203, 209, 249, 82), (210, 216, 249, 82), (217, 221, 249, 82), (222, 228, 249, 82), (229, 239, 249, 82), (240, 248, 249, 82), (0, 100, 255, 84), (101, 111, 255, 84), (112, 122, 255, 84), (123, 129, 255, 84), (130, 138, 255, 84), (139, 145, 255, 84), (146, 154, 255, 84), (155, 161, 255, 84), (162, 168, 255, 84), (169, 174, 255, 84), (175, 179, 255, 84), (180, 185, 255, 84), (186, 195, 255, 84), (196, 202, 255, 84), (203, 209, 255, 84), (210, 216, 255, 84), (217, 221, 255, 84), (222, 228, 255, 84), (229, 239, 255, 84), (240, 248, 255, 84), (0, 100, 261, 86), (101, 111, 261, 86), (112, 122, 261, 86), (123, 129, 261, 86), (130, 138, 261, 86), (139, 145, 261, 86), (146, 154, 261, 86), (155, 161, 261, 86), (162, 168, 261, 86), (169, 174, 261, 86), (175, 179, 261, 86), (180, 185, 261, 86), (186, 195, 261, 86), (196, 202, 261, 86), (203, 209, 261, 86), (210, 216, 261, 86), (217, 221, 261, 86), (222, 228, 261, 86), (229, 239, 261, 86), (240, 248, 261, 86), (0, 100, 267, 88), (101, 111, 267, 88), (112, 122, 267, 88), (123, 129, 267, 88), (130, 138, 267, 88), (139, 145, 267, 88), (146, 154, 267, 88), (155, 161, 267, 88), (162, 168, 267, 88), (169, 174, 267, 88), (175, 179, 267, 88), (180, 185, 267, 88), (186, 195, 267, 88), (196, 202, 267, 88), (203, 209, 267, 88), (210, 216, 267, 88), (217, 221, 267, 88), (222, 228, 267, 88), (229, 239, 267, 88), (240, 248, 267, 88)]) (by decide) rfl ?_
  intro p e s m args below meth c s₁ B hml hv
  obtain ⟨rfl, hsz, hP, hK, hD0, hG⟩ := hv
  have hx := B.exec
  have hb := B.bytes
  have hr := B.returns
  have hts := atoms_spec (ws := wqL_asks) B.pre
  have hown : s.vm.findClass RL = some m.cls := findClass_of_methodNamed B.named
  have hlocks := B.notSynchronized
  subst hsz
  have hD := hD0.self (sz := s.heap.size)
  generalize hAe : va_A (offS a_p_ tp_p_ hd_p_ tf_p_ cf_p_ g o_p_) s.heap.size = A at hD hG ⊢
  have hA : ∀ q : Nat, s.heap.size ≤ q → A q := fun q h => by rw [← hAe]; exact Or.inr h
  have hS : va_S A s.heap s.heap [] := va_S.rf
  have hrc : (headSpec wqL_asks ({ frames := 8, cells := 5, slots := 30, locals := 142 })).room.cells = 5 := rfl
  have hrs : (headSpec wqL_asks ({ frames := 8, cells := 5, slots := 30, locals := 142 })).room.slots = 30 := rfl
  have hTab := vx_table (x := yL_asks) B (hts (Cond.codeWith yL_asks cL_asks 6 (some .int) [(0, 100, 249, 82), (101, 111, 249, 82), (112, 122, 249, 82), (123, 129, 249, 82), (130, 138, 249, 82), (139, 145, 249, 82), (146, 154, 249, 82), (155, 161, 249, 82), (162, 168, 249, 82), (169, 174, 249, 82), (175, 179, 249, 82), (180, 185, 249, 82), (186, 195, 249, 82), (196, 202, 249, 82), (203, 209, 249, 82), (210, 216, 249, 82), (217, 221, 249, 82), (222, 228, 249, 82), (229, 239, 249, 82), (240, 248, 249, 82), (0, 100, 255, 84), (101, 111, 255, 84), (112, 122, 255, 84), (123, 129, 255, 84), (130, 138, 255, 84), (139, 145, 255, 84), (146, 154, 255, 84), (155, 161, 255, 84), (162, 168, 255, 84), (169, 174, 255, 84), (175, 179, 255, 84), (180, 185, 255, 84), (186, 195, 255, 84), (196, 202, 255, 84), (203, 209, 255, 84), (210, 216, 255, 84), (217, 221, 255, 84), (222, 228, 255, 84), (229, 239, 255, 84), (240, 248, 255, 84), (0, 100, 261, 86), (101, 111, 261, 86), (112, 122, 261, 86), (123, 129, 261, 86), (130, 138, 261, 86), (139, 145, 261, 86), (146, 154, 261, 86), (155, 161, 261, 86), (162, 168, 261, 86), (169, 174, 261, 86), (175, 179, 261, 86), (180, 185, 261, 86), (186, 195, 261, 86), (196, 202, 261, 86), (203, 209, 261, 86), (210, 216, 261, 86), (217, 221, 261, 86), (222, 228, 261, 86), (229, 239, 261, 86), (240, 248, 261, 86), (0, 100, 267, 88), (101, 111, 267, 88), (112, 122, 267, 88), (123, 129, 267, 88), (130, 138, 267, 88), (139, 145, 267, 88), (146, 154, 267, 88), (155, 161, 267, 88), (162, 168, 267, 88), (169, 174, 267, 88), (175, 179, 267, 88), (180, 185, 267, 88), (186, 195, 267, 88), (196, 202, 267, 88), (203, 209, 267, 88), (210, 216, 267, 88), (217, 221, 267, 88), (222, 228, 267, 88), (229, 239, 267, 88), (240, 248, 267, 88)]) (List.mem_cons_self))
  have hl := lv_entry ([.ref t_p_, .int 18, .int a_, .int b_, .int c_]) (n := 6) (Nat.le_of_ble_eq_true rfl)
  rw [lg_entry_eq]
  generalize (lg_sl ([.ref t_p_, .int 18, .int a_, .int b_, .int c_]) ++ List.replicate (6 - (lg_sl ([.ref t_p_, .int 18, .int a_, .int b_, .int c_])).length) Slot.unset).toArray = ls at hl ⊢
  have hl : lv_has ls 6 [(0, .ref t_p_), (1, .int 18), (2, .int a_), (3, .int b_), (4, .int c_)] := hl
  unfold wp_L_asks_18 at hw
  have hxl82 := hts (Cond.classLink RL 82 "java/lang/IndexOutOfBoundsException") (aw_l aw_4_48)
  have hxl84 := hts (Cond.classLink RL 84 "java/util/NoSuchElementException") (aw_l aw_4_49)
  have hxl86 := hts (Cond.classLink RL 86 "java/lang/IllegalArgumentException") (aw_l aw_4_50)
  have hxl88 := hts (Cond.classLink RL 88 "java/lang/IllegalStateException") (aw_l aw_4_51)
  refine lv_iload_n hx hb dL_asks_0 rfl (lv_at hl 1 rfl) ?_
  refine lv_tableIn (tgt := 229) hx hb dL_asks_1 (by decide) (by decide) rfl (by decide) ?_
  refine lv_aload_n hx hb dL_asks_229 rfl (lv_at hl 0 rfl) ?_
  refine lv_iload_n hx hb dL_asks_230 rfl (lv_at hl 2 rfl) ?_
  refine lv_iload_n hx hb dL_asks_231 rfl (lv_at hl 3 rfl) ?_
  refine lv_bipush (v := 7) hx hb dL_asks_232 (by decide) ?_
  refine lv_iload hx hb dL_asks_234 (lv_at hl 4 rfl) ?_
  obtain ⟨hPs, hDs⟩ := seg_call (segs := [offS a_p_ tp_p_ hd_p_ tf_p_ cf_p_ g o_p_]) [] [offS a_p_ tp_p_ hd_p_ tf_p_ cf_p_ g o_p_] 1 [0] rfl rfl (by decide) hP hD
  have hPc : va_P (dC, dI) vwCl (offS a_p_ tp_p_ hd_p_ tf_p_ cf_p_ g o_p_) s.heap := P_r hPs
  have hDc : va_D A (offS a_p_ tp_p_ hd_p_ tf_p_ cf_p_ g o_p_) := D_r hDs
  have hFc : ∀ q, va_A (offS a_p_ tp_p_ hd_p_ tf_p_ cf_p_ g o_p_) s.heap.size q → A q := A_all hDc hA hS.1
  refine vx_calli (vx_runV (As := [.int a_, .int b_, .int 7, .int c_]) (rest := []) ⟨hx, hb, hml, hown, hts⟩ (p_combine l hlf dC dI g tp_p_ hd_p_ tf_p_ cf_p_ htf_p_ hcf_p_ a_p_ t_p_ h_p_ o_p_ a_ b_ 7 c_ (hw := hw) (sz := s.heap.size)) (cwV 4 hts (gqV aw_4_208 aw_4_209 aw_4_210 aw_1_1 aw_4_211) rfl rfl rfl (by decide +kernel) ⟨Nat.le_of_ble_eq_true rfl, Nat.le_of_ble_eq_true rfl⟩) ⟨PG_blind, off_recv h_p_ hK hPc, PG_call hK hG hS hPc hDc hFc⟩ rfl rfl hl.1 rfl (lv_room (Nat.le_of_ble_eq_true rfl)) dL_asks_236 ⟨by rw [hrc]; omega, by rw [hrs]; omega⟩) hS (fun q _ h => hFc q h) hFc (fun q _ h => hFc q h) (fun E ce q9 ux t H1 locs1 ht hvm hp9 hB9 hz hk hS9 hce hcv hcl => ?_) (fun r_1 u_1 t_1 H_1 L_1 ht_1 hvm_1 hw_1 hB_1 hz_1 hk_1 hS => ?_)
  · obtain ⟨ad_2, o_3⟩ := ux
    obtain ⟨⟨hw9, had_2⟩, hB9⟩ := hB9
    rw [ht] at hB9
    obtain ⟨hP1, hD1⟩ := hB9
    obtain ⟨hP, hD⟩ := join_r hPs hDs hk hFc hP1 hD1
    obtain ⟨hP, hD⟩ := seg_join [] [offS ad_2 tp_p_ hd_p_ tf_p_ cf_p_ g o_3] [offS ad_2 tp_p_ hd_p_ tf_p_ cf_p_ g o_3] 1 [0] rfl rfl (by decide) hP hD
    have hP : va_P (dC, dI) vwCl (offS ad_2 tp_p_ hd_p_ tf_p_ cf_p_ g o_3) H1 := hP
    have hD : va_D A (offS ad_2 tp_p_ hd_p_ tf_p_ cf_p_ g o_3) := hD
    rcases hw9 with ⟨rfl, hw⟩ | ⟨rfl, hw⟩ | ⟨rfl, hw⟩ | ⟨rfl, hw⟩
    · refine vx_catch (own := RL) (name := "java/lang/IndexOutOfBoundsException") (E := "java/lang/IndexOutOfBoundsException") hown [⟨0, 100, 249, 82⟩, ⟨101, 111, 249, 82⟩, ⟨112, 122, 249, 82⟩, ⟨123, 129, 249, 82⟩, ⟨130, 138, 249, 82⟩, ⟨139, 145, 249, 82⟩, ⟨146, 154, 249, 82⟩, ⟨155, 161, 249, 82⟩, ⟨162, 168, 249, 82⟩, ⟨169, 174, 249, 82⟩, ⟨175, 179, 249, 82⟩, ⟨180, 185, 249, 82⟩, ⟨186, 195, 249, 82⟩, ⟨196, 202, 249, 82⟩, ⟨203, 209, 249, 82⟩, ⟨210, 216, 249, 82⟩, ⟨217, 221, 249, 82⟩, ⟨222, 228, 249, 82⟩] ⟨229, 239, 249, 82⟩ [⟨240, 248, 249, 82⟩, ⟨0, 100, 255, 84⟩, ⟨101, 111, 255, 84⟩, ⟨112, 122, 255, 84⟩, ⟨123, 129, 255, 84⟩, ⟨130, 138, 255, 84⟩, ⟨139, 145, 255, 84⟩, ⟨146, 154, 255, 84⟩, ⟨155, 161, 255, 84⟩, ⟨162, 168, 255, 84⟩, ⟨169, 174, 255, 84⟩, ⟨175, 179, 255, 84⟩, ⟨180, 185, 255, 84⟩, ⟨186, 195, 255, 84⟩, ⟨196, 202, 255, 84⟩, ⟨203, 209, 255, 84⟩, ⟨210, 216, 255, 84⟩, ⟨217, 221, 255, 84⟩, ⟨222, 228, 255, 84⟩, ⟨229, 239, 255, 84⟩, ⟨240, 248, 255, 84⟩, ⟨0, 100, 261, 86⟩, ⟨101, 111, 261, 86⟩, ⟨112, 122, 261, 86⟩, ⟨123, 129, 261, 86⟩, ⟨130, 138, 261, 86⟩, ⟨139, 145, 261, 86⟩, ⟨146, 154, 261, 86⟩, ⟨155, 161, 261, 86⟩, ⟨162, 168, 261, 86⟩, ⟨169, 174, 261, 86⟩, ⟨175, 179, 261, 86⟩, ⟨180, 185, 261, 86⟩, ⟨186, 195, 261, 86⟩, ⟨196, 202, 261, 86⟩, ⟨203, 209, 261, 86⟩, ⟨210, 216, 261, 86⟩, ⟨217, 221, 261, 86⟩, ⟨222, 228, 261, 86⟩, ⟨229, 239, 261, 86⟩, ⟨240, 248, 261, 86⟩, ⟨0, 100, 267, 88⟩, ⟨101, 111, 267, 88⟩, ⟨112, 122, 267, 88⟩, ⟨123, 129, 267, 88⟩, ⟨130, 138, 267, 88⟩, ⟨139, 145, 267, 88⟩, ⟨146, 154, 267, 88⟩, ⟨155, 161, 267, 88⟩, ⟨162, 168, 267, 88⟩, ⟨169, 174, 267, 88⟩, ⟨175, 179, 267, 88⟩, ⟨180, 185, 267, 88⟩, ⟨186, 195, 267, 88⟩, ⟨196, 202, 267, 88⟩, ⟨203, 209, 267, 88⟩, ⟨210, 216, 267, 88⟩, ⟨217, 221, 267, 88⟩, ⟨222, 228, 267, 88⟩, ⟨229, 239, 267, 88⟩, ⟨240, 248, 267, 88⟩] (by rw [hTab]; rfl) (fun z hz => (List.mem_cons.mp hz).elim (fun q => by subst q; exact Or.inl (by decide)) (fun hz => (List.mem_cons.mp hz).elim (fun q => by subst q; exact Or.inl (by decide)) (fun hz => (List.mem_cons.mp hz).elim (fun q => by subst q; exact Or.inl (by decide)) (fun hz => (List.mem_cons.mp hz).elim (fun q => by subst q; exact Or.inl (by decide)) (fun hz => (List.mem_cons.mp hz).elim (fun q => by subst q; exact Or.inl (by decide)) (fun hz => (List.mem_cons.mp hz).elim (fun q => by subst q; exact Or.inl (by decide)) (fun hz => (List.mem_cons.mp hz).elim (fun q => by subst q; exact Or.inl (by decide)) (fun hz => (List.mem_cons.mp hz).elim (fun q => by subst q; exact Or.inl (by decide)) (fun hz => (List.mem_cons.mp hz).elim (fun q => by subst q; exact Or.inl (by decide)) (fun hz => (List.mem_cons.mp hz).elim (fun q => by subst q; exact Or.inl (by decide)) (fun hz => (List.mem_cons.mp hz).elim (fun q => by subst q; exact Or.inl (by decide)) (fun hz => (List.mem_cons.mp hz).elim (fun q => by subst q; exact Or.inl (by decide)) (fun hz => (List.mem_cons.mp hz).elim (fun q => by subst q; exact Or.inl (by decide)) (fun hz => (List.mem_cons.mp hz).elim (fun q => by subst q; exact Or.inl (by decide)) (fun hz => (List.mem_cons.mp hz).elim (fun q => by subst q; exact Or.inl (by decide)) (fun hz => (List.mem_cons.mp hz).elim (fun q => by subst q; exact Or.inl (by decide)) (fun hz => (List.mem_cons.mp hz).elim (fun q => by subst q; exact Or.inl (by decide)) (fun hz => (List.mem_cons.mp hz).elim (fun q => by subst q; exact Or.inl (by decide)) (fun hz => absurd hz List.not_mem_nil))))))))))))))))))) (by decide) (by decide) hxl82 (xc_0 hG) hce hcv hcl ?_
      have hS := hS9
      have ht_1 := ht
      refine lv_astore (lv' := [(5, .ref q9), (0, .ref t_p_), (1, .int 18), (2, .int a_), (3, .int b_), (4, .int c_)]) hx hb dL_asks_249 hl (by decide) rfl (fun ls hl => ?_)
      refine lv_sipush (v := (-20001)) hx hb dL_asks_251 (by decide) ?_
      refine W.widen (k := 5) (n := 30) (by omega) (by omega) ?_
      exact W.iret (v := (-20001)) hx hb hr (fun t ht hW => ⟨⟨(-20001), (ad_2, o_3, ()), rfl, ⟨hw, had_2⟩, ⟨P_at ht hP, hD⟩⟩, hS.F ht⟩) hS.2.2 dL_asks_254
    · refine vx_catch (own := RL) (name := "java/util/NoSuchElementException") (E := "java/util/NoSuchElementException") hown [⟨0, 100, 249, 82⟩, ⟨101, 111, 249, 82⟩, ⟨112, 122, 249, 82⟩, ⟨123, 129, 249, 82⟩, ⟨130, 138, 249, 82⟩, ⟨139, 145, 249, 82⟩, ⟨146, 154, 249, 82⟩, ⟨155, 161, 249, 82⟩, ⟨162, 168, 249, 82⟩, ⟨169, 174, 249, 82⟩, ⟨175, 179, 249, 82⟩, ⟨180, 185, 249, 82⟩, ⟨186, 195, 249, 82⟩, ⟨196, 202, 249, 82⟩, ⟨203, 209, 249, 82⟩, ⟨210, 216, 249, 82⟩, ⟨217, 221, 249, 82⟩, ⟨222, 228, 249, 82⟩, ⟨229, 239, 249, 82⟩, ⟨240, 248, 249, 82⟩, ⟨0, 100, 255, 84⟩, ⟨101, 111, 255, 84⟩, ⟨112, 122, 255, 84⟩, ⟨123, 129, 255, 84⟩, ⟨130, 138, 255, 84⟩, ⟨139, 145, 255, 84⟩, ⟨146, 154, 255, 84⟩, ⟨155, 161, 255, 84⟩, ⟨162, 168, 255, 84⟩, ⟨169, 174, 255, 84⟩, ⟨175, 179, 255, 84⟩, ⟨180, 185, 255, 84⟩, ⟨186, 195, 255, 84⟩, ⟨196, 202, 255, 84⟩, ⟨203, 209, 255, 84⟩, ⟨210, 216, 255, 84⟩, ⟨217, 221, 255, 84⟩, ⟨222, 228, 255, 84⟩] ⟨229, 239, 255, 84⟩ [⟨240, 248, 255, 84⟩, ⟨0, 100, 261, 86⟩, ⟨101, 111, 261, 86⟩, ⟨112, 122, 261, 86⟩, ⟨123, 129, 261, 86⟩, ⟨130, 138, 261, 86⟩, ⟨139, 145, 261, 86⟩, ⟨146, 154, 261, 86⟩, ⟨155, 161, 261, 86⟩, ⟨162, 168, 261, 86⟩, ⟨169, 174, 261, 86⟩, ⟨175, 179, 261, 86⟩, ⟨180, 185, 261, 86⟩, ⟨186, 195, 261, 86⟩, ⟨196, 202, 261, 86⟩, ⟨203, 209, 261, 86⟩, ⟨210, 216, 261, 86⟩, ⟨217, 221, 261, 86⟩, ⟨222, 228, 261, 86⟩, ⟨229, 239, 261, 86⟩, ⟨240, 248, 261, 86⟩, ⟨0, 100, 267, 88⟩, ⟨101, 111, 267, 88⟩, ⟨112, 122, 267, 88⟩, ⟨123, 129, 267, 88⟩, ⟨130, 138, 267, 88⟩, ⟨139, 145, 267, 88⟩, ⟨146, 154, 267, 88⟩, ⟨155, 161, 267, 88⟩, ⟨162, 168, 267, 88⟩, ⟨169, 174, 267, 88⟩, ⟨175, 179, 267, 88⟩, ⟨180, 185, 267, 88⟩, ⟨186, 195, 267, 88⟩, ⟨196, 202, 267, 88⟩, ⟨203, 209, 267, 88⟩, ⟨210, 216, 267, 88⟩, ⟨217, 221, 267, 88⟩, ⟨222, 228, 267, 88⟩, ⟨229, 239, 267, 88⟩, ⟨240, 248, 267, 88⟩] (by rw [hTab]; rfl) (fun z hz => (List.mem_cons.mp hz).elim (fun q => by subst q; exact Or.inl (by decide)) (fun hz => (List.mem_cons.mp hz).elim (fun q => by subst q; exact Or.inl (by decide)) (fun hz => (List.mem_cons.mp hz).elim (fun q => by subst q; exact Or.inl (by decide)) (fun hz => (List.mem_cons.mp hz).elim (fun q => by subst q; exact Or.inl (by decide)) (fun hz => (List.mem_cons.mp hz).elim (fun q => by subst q; exact Or.inl (by decide)) (fun hz => (List.mem_cons.mp hz).elim (fun q => by subst q; exact Or.inl (by decide)) (fun hz => (List.mem_cons.mp hz).elim (fun q => by subst q; exact Or.inl (by decide)) (fun hz => (List.mem_cons.mp hz).elim (fun q => by subst q; exact Or.inl (by decide)) (fun hz => (List.mem_cons.mp hz).elim (fun q => by subst q; exact Or.inl (by decide)) (fun hz => (List.mem_cons.mp hz).elim (fun q => by subst q; exact Or.inl (by decide)) (fun hz => (List.mem_cons.mp hz).elim (fun q => by subst q; exact Or.inl (by decide)) (fun hz => (List.mem_cons.mp hz).elim (fun q => by subst q; exact Or.inl (by decide)) (fun hz => (List.mem_cons.mp hz).elim (fun q => by subst q; exact Or.inl (by decide)) (fun hz => (List.mem_cons.mp hz).elim (fun q => by subst q; exact Or.inl (by decide)) (fun hz => (List.mem_cons.mp hz).elim (fun q => by subst q; exact Or.inl (by decide)) (fun hz => (List.mem_cons.mp hz).elim (fun q => by subst q; exact Or.inl (by decide)) (fun hz => (List.mem_cons.mp hz).elim (fun q => by subst q; exact Or.inl (by decide)) (fun hz => (List.mem_cons.mp hz).elim (fun q => by subst q; exact Or.inl (by decide)) (fun hz => (List.mem_cons.mp hz).elim (fun q => by subst q; exact Or.inr ⟨by decide, _, hxl82, nc_0 hG⟩) (fun hz => (List.mem_cons.mp hz).elim (fun q => by subst q; exact Or.inl (by decide)) (fun hz => (List.mem_cons.mp hz).elim (fun q => by subst q; exact Or.inl (by decide)) (fun hz => (List.mem_cons.mp hz).elim (fun q => by subst q; exact Or.inl (by decide)) (fun hz => (List.mem_cons.mp hz).elim (fun q => by subst q; exact Or.inl (by decide)) (fun hz => (List.mem_cons.mp hz).elim (fun q => by subst q; exact Or.inl (by decide)) (fun hz => (List.mem_cons.mp hz).elim (fun q => by subst q; exact Or.inl (by decide)) (fun hz => (List.mem_cons.mp hz).elim (fun q => by subst q; exact Or.inl (by decide)) (fun hz => (List.mem_cons.mp hz).elim (fun q => by subst q; exact Or.inl (by decide)) (fun hz => (List.mem_cons.mp hz).elim (fun q => by subst q; exact Or.inl (by decide)) (fun hz => (List.mem_cons.mp hz).elim (fun q => by subst q; exact Or.inl (by decide)) (fun hz => (List.mem_cons.mp hz).elim (fun q => by subst q; exact Or.inl (by decide)) (fun hz => (List.mem_cons.mp hz).elim (fun q => by subst q; exact Or.inl (by decide)) (fun hz => (List.mem_cons.mp hz).elim (fun q => by subst q; exact Or.inl (by decide)) (fun hz => (List.mem_cons.mp hz).elim (fun q => by subst q; exact Or.inl (by decide)) (fun hz => (List.mem_cons.mp hz).elim (fun q => by subst q; exact Or.inl (by decide)) (fun hz => (List.mem_cons.mp hz).elim (fun q => by subst q; exact Or.inl (by decide)) (fun hz => (List.mem_cons.mp hz).elim (fun q => by subst q; exact Or.inl (by decide)) (fun hz => (List.mem_cons.mp hz).elim (fun q => by subst q; exact Or.inl (by decide)) (fun hz => (List.mem_cons.mp hz).elim (fun q => by subst q; exact Or.inl (by decide)) (fun hz => absurd hz List.not_mem_nil))))))))))))))))))))))))))))))))))))))) (by decide) (by decide) hxl84 (xc_3 hG) hce hcv hcl ?_
      have hS := hS9
      have ht_1 := ht
      refine lv_astore (lv' := [(5, .ref q9), (0, .ref t_p_), (1, .int 18), (2, .int a_), (3, .int b_), (4, .int c_)]) hx hb dL_asks_255 hl (by decide) rfl (fun ls hl => ?_)
      refine lv_sipush (v := (-20002)) hx hb dL_asks_257 (by decide) ?_
      refine W.widen (k := 5) (n := 30) (by omega) (by omega) ?_
      exact W.iret (v := (-20002)) hx hb hr (fun t ht hW => ⟨⟨(-20002), (ad_2, o_3, ()), rfl, ⟨hw, had_2⟩, ⟨P_at ht hP, hD⟩⟩, hS.F ht⟩) hS.2.2 dL_asks_260
    · refine vx_catch (own := RL) (name := "java/lang/IllegalArgumentException") (E := "java/lang/IllegalArgumentException") hown [⟨0, 100, 249, 82⟩, ⟨101, 111, 249, 82⟩, ⟨112, 122, 249, 82⟩, ⟨123, 129, 249, 82⟩, ⟨130, 138, 249, 82⟩, ⟨139, 145, 249, 82⟩, ⟨146, 154, 249, 82⟩, ⟨155, 161, 249, 82⟩, ⟨162, 168, 249, 82⟩, ⟨169, 174, 249, 82⟩, ⟨175, 179, 249, 82⟩, ⟨180, 185, 249, 82⟩, ⟨186, 195, 249, 82⟩, ⟨196, 202, 249, 82⟩, ⟨203, 209, 249, 82⟩, ⟨210, 216, 249, 82⟩, ⟨217, 221, 249, 82⟩, ⟨222, 228, 249, 82⟩, ⟨229, 239, 249, 82⟩, ⟨240, 248, 249, 82⟩, ⟨0, 100, 255, 84⟩, ⟨101, 111, 255, 84⟩, ⟨112, 122, 255, 84⟩, ⟨123, 129, 255, 84⟩, ⟨130, 138, 255, 84⟩, ⟨139, 145, 255, 84⟩, ⟨146, 154, 255, 84⟩, ⟨155, 161, 255, 84⟩, ⟨162, 168, 255, 84⟩, ⟨169, 174, 255, 84⟩, ⟨175, 179, 255, 84⟩, ⟨180, 185, 255, 84⟩, ⟨186, 195, 255, 84⟩, ⟨196, 202, 255, 84⟩, ⟨203, 209, 255, 84⟩, ⟨210, 216, 255, 84⟩, ⟨217, 221, 255, 84⟩, ⟨222, 228, 255, 84⟩, ⟨229, 239, 255, 84⟩, ⟨240, 248, 255, 84⟩, ⟨0, 100, 261, 86⟩, ⟨101, 111, 261, 86⟩, ⟨112, 122, 261, 86⟩, ⟨123, 129, 261, 86⟩, ⟨130, 138, 261, 86⟩, ⟨139, 145, 261, 86⟩, ⟨146, 154, 261, 86⟩, ⟨155, 161, 261, 86⟩, ⟨162, 168, 261, 86⟩, ⟨169, 174, 261, 86⟩, ⟨175, 179, 261, 86⟩, ⟨180, 185, 261, 86⟩, ⟨186, 195, 261, 86⟩, ⟨196, 202, 261, 86⟩, ⟨203, 209, 261, 86⟩, ⟨210, 216, 261, 86⟩, ⟨217, 221, 261, 86⟩, ⟨222, 228, 261, 86⟩] ⟨229, 239, 261, 86⟩ [⟨240, 248, 261, 86⟩, ⟨0, 100, 267, 88⟩, ⟨101, 111, 267, 88⟩, ⟨112, 122, 267, 88⟩, ⟨123, 129, 267, 88⟩, ⟨130, 138, 267, 88⟩, ⟨139, 145, 267, 88⟩, ⟨146, 154, 267, 88⟩, ⟨155, 161, 267, 88⟩, ⟨162, 168, 267, 88⟩, ⟨169, 174, 267, 88⟩, ⟨175, 179, 267, 88⟩, ⟨180, 185, 267, 88⟩, ⟨186, 195, 267, 88⟩, ⟨196, 202, 267, 88⟩, ⟨203, 209, 267, 88⟩, ⟨210, 216, 267, 88⟩, ⟨217, 221, 267, 88⟩, ⟨222, 228, 267, 88⟩, ⟨229, 239, 267, 88⟩, ⟨240, 248, 267, 88⟩] (by rw [hTab]; rfl) (fun z hz => (List.mem_cons.mp hz).elim (fun q => by subst q; exact Or.inl (by decide)) (fun hz => (List.mem_cons.mp hz).elim (fun q => by subst q; exact Or.inl (by decide)) (fun hz => (List.mem_cons.mp hz).elim (fun q => by subst q; exact Or.inl (by decide)) (fun hz => (List.mem_cons.mp hz).elim (fun q => by subst q; exact Or.inl (by decide)) (fun hz => (List.mem_cons.mp hz).elim (fun q => by subst q; exact Or.inl (by decide)) (fun hz => (List.mem_cons.mp hz).elim (fun q => by subst q; exact Or.inl (by decide)) (fun hz => (List.mem_cons.mp hz).elim (fun q => by subst q; exact Or.inl (by decide)) (fun hz => (List.mem_cons.mp hz).elim (fun q => by subst q; exact Or.inl (by decide)) (fun hz => (List.mem_cons.mp hz).elim (fun q => by subst q; exact Or.inl (by decide)) (fun hz => (List.mem_cons.mp hz).elim (fun q => by subst q; exact Or.inl (by decide)) (fun hz => (List.mem_cons.mp hz).elim (fun q => by subst q; exact Or.inl (by decide)) (fun hz => (List.mem_cons.mp hz).elim (fun q => by subst q; exact Or.inl (by decide)) (fun hz => (List.mem_cons.mp hz).elim (fun q => by subst q; exact Or.inl (by decide)) (fun hz => (List.mem_cons.mp hz).elim (fun q => by subst q; exact Or.inl (by decide)) (fun hz => (List.mem_cons.mp hz).elim (fun q => by subst q; exact Or.inl (by decide)) (fun hz => (List.mem_cons.mp hz).elim (fun q => by subst q; exact Or.inl (by decide)) (fun hz => (List.mem_cons.mp hz).elim (fun q => by subst q; exact Or.inl (by decide)) (fun hz => (List.mem_cons.mp hz).elim (fun q => by subst q; exact Or.inl (by decide)) (fun hz => (List.mem_cons.mp hz).elim (fun q => by subst q; exact Or.inr ⟨by decide, _, hxl82, nc_1 hG⟩) (fun hz => (List.mem_cons.mp hz).elim (fun q => by subst q; exact Or.inl (by decide)) (fun hz => (List.mem_cons.mp hz).elim (fun q => by subst q; exact Or.inl (by decide)) (fun hz => (List.mem_cons.mp hz).elim (fun q => by subst q; exact Or.inl (by decide)) (fun hz => (List.mem_cons.mp hz).elim (fun q => by subst q; exact Or.inl (by decide)) (fun hz => (List.mem_cons.mp hz).elim (fun q => by subst q; exact Or.inl (by decide)) (fun hz => (List.mem_cons.mp hz).elim (fun q => by subst q; exact Or.inl (by decide)) (fun hz => (List.mem_cons.mp hz).elim (fun q => by subst q; exact Or.inl (by decide)) (fun hz => (List.mem_cons.mp hz).elim (fun q => by subst q; exact Or.inl (by decide)) (fun hz => (List.mem_cons.mp hz).elim (fun q => by subst q; exact Or.inl (by decide)) (fun hz => (List.mem_cons.mp hz).elim (fun q => by subst q; exact Or.inl (by decide)) (fun hz => (List.mem_cons.mp hz).elim (fun q => by subst q; exact Or.inl (by decide)) (fun hz => (List.mem_cons.mp hz).elim (fun q => by subst q; exact Or.inl (by decide)) (fun hz => (List.mem_cons.mp hz).elim (fun q => by subst q; exact Or.inl (by decide)) (fun hz => (List.mem_cons.mp hz).elim (fun q => by subst q; exact Or.inl (by decide)) (fun hz => (List.mem_cons.mp hz).elim (fun q => by subst q; exact Or.inl (by decide)) (fun hz => (List.mem_cons.mp hz).elim (fun q => by subst q; exact Or.inl (by decide)) (fun hz => (List.mem_cons.mp hz).elim (fun q => by subst q; exact Or.inl (by decide)) (fun hz => (List.mem_cons.mp hz).elim (fun q => by subst q; exact Or.inl (by decide)) (fun hz => (List.mem_cons.mp hz).elim (fun q => by subst q; exact Or.inl (by decide)) (fun hz => (List.mem_cons.mp hz).elim (fun q => by subst q; exact Or.inr ⟨by decide, _, hxl84, nc_2 hG⟩) (fun hz => (List.mem_cons.mp hz).elim (fun q => by subst q; exact Or.inl (by decide)) (fun hz => (List.mem_cons.mp hz).elim (fun q => by subst q; exact Or.inl (by decide)) (fun hz => (List.mem_cons.mp hz).elim (fun q => by subst q; exact Or.inl (by decide)) (fun hz => (List.mem_cons.mp hz).elim (fun q => by subst q; exact Or.inl (by decide)) (fun hz => (List.mem_cons.mp hz).elim (fun q => by subst q; exact Or.inl (by decide)) (fun hz => (List.mem_cons.mp hz).elim (fun q => by subst q; exact Or.inl (by decide)) (fun hz => (List.mem_cons.mp hz).elim (fun q => by subst q; exact Or.inl (by decide)) (fun hz => (List.mem_cons.mp hz).elim (fun q => by subst q; exact Or.inl (by decide)) (fun hz => (List.mem_cons.mp hz).elim (fun q => by subst q; exact Or.inl (by decide)) (fun hz => (List.mem_cons.mp hz).elim (fun q => by subst q; exact Or.inl (by decide)) (fun hz => (List.mem_cons.mp hz).elim (fun q => by subst q; exact Or.inl (by decide)) (fun hz => (List.mem_cons.mp hz).elim (fun q => by subst q; exact Or.inl (by decide)) (fun hz => (List.mem_cons.mp hz).elim (fun q => by subst q; exact Or.inl (by decide)) (fun hz => (List.mem_cons.mp hz).elim (fun q => by subst q; exact Or.inl (by decide)) (fun hz => (List.mem_cons.mp hz).elim (fun q => by subst q; exact Or.inl (by decide)) (fun hz => (List.mem_cons.mp hz).elim (fun q => by subst q; exact Or.inl (by decide)) (fun hz => (List.mem_cons.mp hz).elim (fun q => by subst q; exact Or.inl (by decide)) (fun hz => (List.mem_cons.mp hz).elim (fun q => by subst q; exact Or.inl (by decide)) (fun hz => (List.mem_cons.mp hz).elim (fun q => by subst q; exact Or.inl (by decide)) (fun hz => absurd hz List.not_mem_nil))))))))))))))))))))))))))))))))))))))))))))))))))))))))))) (by decide) (by decide) hxl86 (xc_1 hG) hce hcv hcl ?_
      have hS := hS9
      have ht_1 := ht
      refine lv_astore (lv' := [(5, .ref q9), (0, .ref t_p_), (1, .int 18), (2, .int a_), (3, .int b_), (4, .int c_)]) hx hb dL_asks_261 hl (by decide) rfl (fun ls hl => ?_)
      refine lv_sipush (v := (-20003)) hx hb dL_asks_263 (by decide) ?_
      refine W.widen (k := 5) (n := 30) (by omega) (by omega) ?_
      exact W.iret (v := (-20003)) hx hb hr (fun t ht hW => ⟨⟨(-20003), (ad_2, o_3, ()), rfl, ⟨hw, had_2⟩, ⟨P_at ht hP, hD⟩⟩, hS.F ht⟩) hS.2.2 dL_asks_266
    · refine vx_catch (own := RL) (name := "java/lang/IllegalStateException") (E := "java/lang/IllegalStateException") hown [⟨0, 100, 249, 82⟩, ⟨101, 111, 249, 82⟩, ⟨112, 122, 249, 82⟩, ⟨123, 129, 249, 82⟩, ⟨130, 138, 249, 82⟩, ⟨139, 145, 249, 82⟩, ⟨146, 154, 249, 82⟩, ⟨155, 161, 249, 82⟩, ⟨162, 168, 249, 82⟩, ⟨169, 174, 249, 82⟩, ⟨175, 179, 249, 82⟩, ⟨180, 185, 249, 82⟩, ⟨186, 195, 249, 82⟩, ⟨196, 202, 249, 82⟩, ⟨203, 209, 249, 82⟩, ⟨210, 216, 249, 82⟩, ⟨217, 221, 249, 82⟩, ⟨222, 228, 249, 82⟩, ⟨229, 239, 249, 82⟩, ⟨240, 248, 249, 82⟩, ⟨0, 100, 255, 84⟩, ⟨101, 111, 255, 84⟩, ⟨112, 122, 255, 84⟩, ⟨123, 129, 255, 84⟩, ⟨130, 138, 255, 84⟩, ⟨139, 145, 255, 84⟩, ⟨146, 154, 255, 84⟩, ⟨155, 161, 255, 84⟩, ⟨162, 168, 255, 84⟩, ⟨169, 174, 255, 84⟩, ⟨175, 179, 255, 84⟩, ⟨180, 185, 255, 84⟩, ⟨186, 195, 255, 84⟩, ⟨196, 202, 255, 84⟩, ⟨203, 209, 255, 84⟩, ⟨210, 216, 255, 84⟩, ⟨217, 221, 255, 84⟩, ⟨222, 228, 255, 84⟩, ⟨229, 239, 255, 84⟩, ⟨240, 248, 255, 84⟩, ⟨0, 100, 261, 86⟩, ⟨101, 111, 261, 86⟩, ⟨112, 122, 261, 86⟩, ⟨123, 129, 261, 86⟩, ⟨130, 138, 261, 86⟩, ⟨139, 145, 261, 86⟩, ⟨146, 154, 261, 86⟩, ⟨155, 161, 261, 86⟩, ⟨162, 168, 261, 86⟩, ⟨169, 174, 261, 86⟩, ⟨175, 179, 261, 86⟩, ⟨180, 185, 261, 86⟩, ⟨186, 195, 261, 86⟩, ⟨196, 202, 261, 86⟩, ⟨203, 209, 261, 86⟩, ⟨210, 216, 261, 86⟩, ⟨217, 221, 261, 86⟩, ⟨222, 228, 261, 86⟩, ⟨229, 239, 261, 86⟩, ⟨240, 248, 261, 86⟩, ⟨0, 100, 267, 88⟩, ⟨101, 111, 267, 88⟩, ⟨112, 122, 267, 88⟩, ⟨123, 129, 267, 88⟩, ⟨130, 138, 267, 88⟩, ⟨139, 145, 267, 88⟩, ⟨146, 154, 267, 88⟩, ⟨155, 161, 267, 88⟩, ⟨162, 168, 267, 88⟩, ⟨169, 174, 267, 88⟩, ⟨175, 179, 267, 88⟩, ⟨180, 185, 267, 88⟩, ⟨186, 195, 267, 88⟩, ⟨196, 202, 267, 88⟩, ⟨203, 209, 267, 88⟩, ⟨210, 216, 267, 88⟩, ⟨217, 221, 267, 88⟩, ⟨222, 228, 267, 88⟩] ⟨229, 239, 267, 88⟩ [⟨240, 248, 267, 88⟩] (by rw [hTab]; rfl) (fun z hz => (List.mem_cons.mp hz).elim (fun q => by subst q; exact Or.inl (by decide)) (fun hz => (List.mem_cons.mp hz).elim (fun q => by subst q; exact Or.inl (by decide)) (fun hz => (List.mem_cons.mp hz).elim (fun q => by subst q; exact Or.inl (by decide)) (fun hz => (List.mem_cons.mp hz).elim (fun q => by subst q; exact Or.inl (by decide)) (fun hz => (List.mem_cons.mp hz).elim (fun q => by subst q; exact Or.inl (by decide)) (fun hz => (List.mem_cons.mp hz).elim (fun q => by subst q; exact Or.inl (by decide)) (fun hz => (List.mem_cons.mp hz).elim (fun q => by subst q; exact Or.inl (by decide)) (fun hz => (List.mem_cons.mp hz).elim (fun q => by subst q; exact Or.inl (by decide)) (fun hz => (List.mem_cons.mp hz).elim (fun q => by subst q; exact Or.inl (by decide)) (fun hz => (List.mem_cons.mp hz).elim (fun q => by subst q; exact Or.inl (by decide)) (fun hz => (List.mem_cons.mp hz).elim (fun q => by subst q; exact Or.inl (by decide)) (fun hz => (List.mem_cons.mp hz).elim (fun q => by subst q; exact Or.inl (by decide)) (fun hz => (List.mem_cons.mp hz).elim (fun q => by subst q; exact Or.inl (by decide)) (fun hz => (List.mem_cons.mp hz).elim (fun q => by subst q; exact Or.inl (by decide)) (fun hz => (List.mem_cons.mp hz).elim (fun q => by subst q; exact Or.inl (by decide)) (fun hz => (List.mem_cons.mp hz).elim (fun q => by subst q; exact Or.inl (by decide)) (fun hz => (List.mem_cons.mp hz).elim (fun q => by subst q; exact Or.inl (by decide)) (fun hz => (List.mem_cons.mp hz).elim (fun q => by subst q; exact Or.inl (by decide)) (fun hz => (List.mem_cons.mp hz).elim (fun q => by subst q; exact Or.inr ⟨by decide, _, hxl82, nc_3 hG⟩) (fun hz => (List.mem_cons.mp hz).elim (fun q => by subst q; exact Or.inl (by decide)) (fun hz => (List.mem_cons.mp hz).elim (fun q => by subst q; exact Or.inl (by decide)) (fun hz => (List.mem_cons.mp hz).elim (fun q => by subst q; exact Or.inl (by decide)) (fun hz => (List.mem_cons.mp hz).elim (fun q => by subst q; exact Or.inl (by decide)) (fun hz => (List.mem_cons.mp hz).elim (fun q => by subst q; exact Or.inl (by decide)) (fun hz => (List.mem_cons.mp hz).elim (fun q => by subst q; exact Or.inl (by decide)) (fun hz => (List.mem_cons.mp hz).elim (fun q => by subst q; exact Or.inl (by decide)) (fun hz => (List.mem_cons.mp hz).elim (fun q => by subst q; exact Or.inl (by decide)) (fun hz => (List.mem_cons.mp hz).elim (fun q => by subst q; exact Or.inl (by decide)) (fun hz => (List.mem_cons.mp hz).elim (fun q => by subst q; exact Or.inl (by decide)) (fun hz => (List.mem_cons.mp hz).elim (fun q => by subst q; exact Or.inl (by decide)) (fun hz => (List.mem_cons.mp hz).elim (fun q => by subst q; exact Or.inl (by decide)) (fun hz => (List.mem_cons.mp hz).elim (fun q => by subst q; exact Or.inl (by decide)) (fun hz => (List.mem_cons.mp hz).elim (fun q => by subst q; exact Or.inl (by decide)) (fun hz => (List.mem_cons.mp hz).elim (fun q => by subst q; exact Or.inl (by decide)) (fun hz => (List.mem_cons.mp hz).elim (fun q => by subst q; exact Or.inl (by decide)) (fun hz => (List.mem_cons.mp hz).elim (fun q => by subst q; exact Or.inl (by decide)) (fun hz => (List.mem_cons.mp hz).elim (fun q => by subst q; exact Or.inl (by decide)) (fun hz => (List.mem_cons.mp hz).elim (fun q => by subst q; exact Or.inl (by decide)) (fun hz => (List.mem_cons.mp hz).elim (fun q => by subst q; exact Or.inr ⟨by decide, _, hxl84, nc_4 hG⟩) (fun hz => (List.mem_cons.mp hz).elim (fun q => by subst q; exact Or.inl (by decide)) (fun hz => (List.mem_cons.mp hz).elim (fun q => by subst q; exact Or.inl (by decide)) (fun hz => (List.mem_cons.mp hz).elim (fun q => by subst q; exact Or.inl (by decide)) (fun hz => (List.mem_cons.mp hz).elim (fun q => by subst q; exact Or.inl (by decide)) (fun hz => (List.mem_cons.mp hz).elim (fun q => by subst q; exact Or.inl (by decide)) (fun hz => (List.mem_cons.mp hz).elim (fun q => by subst q; exact Or.inl (by decide)) (fun hz => (List.mem_cons.mp hz).elim (fun q => by subst q; exact Or.inl (by decide)) (fun hz => (List.mem_cons.mp hz).elim (fun q => by subst q; exact Or.inl (by decide)) (fun hz => (List.mem_cons.mp hz).elim (fun q => by subst q; exact Or.inl (by decide)) (fun hz => (List.mem_cons.mp hz).elim (fun q => by subst q; exact Or.inl (by decide)) (fun hz => (List.mem_cons.mp hz).elim (fun q => by subst q; exact Or.inl (by decide)) (fun hz => (List.mem_cons.mp hz).elim (fun q => by subst q; exact Or.inl (by decide)) (fun hz => (List.mem_cons.mp hz).elim (fun q => by subst q; exact Or.inl (by decide)) (fun hz => (List.mem_cons.mp hz).elim (fun q => by subst q; exact Or.inl (by decide)) (fun hz => (List.mem_cons.mp hz).elim (fun q => by subst q; exact Or.inl (by decide)) (fun hz => (List.mem_cons.mp hz).elim (fun q => by subst q; exact Or.inl (by decide)) (fun hz => (List.mem_cons.mp hz).elim (fun q => by subst q; exact Or.inl (by decide)) (fun hz => (List.mem_cons.mp hz).elim (fun q => by subst q; exact Or.inl (by decide)) (fun hz => (List.mem_cons.mp hz).elim (fun q => by subst q; exact Or.inl (by decide)) (fun hz => (List.mem_cons.mp hz).elim (fun q => by subst q; exact Or.inr ⟨by decide, _, hxl86, nc_5 hG⟩) (fun hz => (List.mem_cons.mp hz).elim (fun q => by subst q; exact Or.inl (by decide)) (fun hz => (List.mem_cons.mp hz).elim (fun q => by subst q; exact Or.inl (by decide)) (fun hz => (List.mem_cons.mp hz).elim (fun q => by subst q; exact Or.inl (by decide)) (fun hz => (List.mem_cons.mp hz).elim (fun q => by subst q; exact Or.inl (by decide)) (fun hz => (List.mem_cons.mp hz).elim (fun q => by subst q; exact Or.inl (by decide)) (fun hz => (List.mem_cons.mp hz).elim (fun q => by subst q; exact Or.inl (by decide)) (fun hz => (List.mem_cons.mp hz).elim (fun q => by subst q; exact Or.inl (by decide)) (fun hz => (List.mem_cons.mp hz).elim (fun q => by subst q; exact Or.inl (by decide)) (fun hz => (List.mem_cons.mp hz).elim (fun q => by subst q; exact Or.inl (by decide)) (fun hz => (List.mem_cons.mp hz).elim (fun q => by subst q; exact Or.inl (by decide)) (fun hz => (List.mem_cons.mp hz).elim (fun q => by subst q; exact Or.inl (by decide)) (fun hz => (List.mem_cons.mp hz).elim (fun q => by subst q; exact Or.inl (by decide)) (fun hz => (List.mem_cons.mp hz).elim (fun q => by subst q; exact Or.inl (by decide)) (fun hz => (List.mem_cons.mp hz).elim (fun q => by subst q; exact Or.inl (by decide)) (fun hz => (List.mem_cons.mp hz).elim (fun q => by subst q; exact Or.inl (by decide)) (fun hz => (List.mem_cons.mp hz).elim (fun q => by subst q; exact Or.inl (by decide)) (fun hz => (List.mem_cons.mp hz).elim (fun q => by subst q; exact Or.inl (by decide)) (fun hz => (List.mem_cons.mp hz).elim (fun q => by subst q; exact Or.inl (by decide)) (fun hz => (List.mem_cons.mp hz).elim (fun q => by subst q; exact Or.inl (by decide)) (fun hz => absurd hz List.not_mem_nil))))))))))))))))))))))))))))))))))))))))))))))))))))))))))))))))))))))))))))))) (by decide) (by decide) hxl88 (xc_2 hG) hce hcv hcl ?_
      have hS := hS9
      have ht_1 := ht
      refine lv_astore (lv' := [(5, .ref q9), (0, .ref t_p_), (1, .int 18), (2, .int a_), (3, .int b_), (4, .int c_)]) hx hb dL_asks_267 hl (by decide) rfl (fun ls hl => ?_)
      refine lv_sipush (v := (-20004)) hx hb dL_asks_269 (by decide) ?_
      refine W.widen (k := 5) (n := 30) (by omega) (by omega) ?_
      exact W.iret (v := (-20004)) hx hb hr (fun t ht hW => ⟨⟨(-20004), (ad_2, o_3, ()), rfl, ⟨hw, had_2⟩, ⟨P_at ht hP, hD⟩⟩, hS.F ht⟩) hS.2.2 dL_asks_272
  obtain ⟨ad_4, o_5⟩ := u_1
  obtain ⟨hw, had_4⟩ := hw_1
  rw [ht_1] at hB_1
  obtain ⟨hP1, hD1⟩ := hB_1
  obtain ⟨hP, hD⟩ := join_r hPs hDs hk_1 hFc hP1 hD1
  obtain ⟨hP, hD⟩ := seg_join [] [offS ad_4 tp_p_ hd_p_ tf_p_ cf_p_ g o_5] [offS ad_4 tp_p_ hd_p_ tf_p_ cf_p_ g o_5] 1 [0] rfl rfl (by decide) hP hD
  have hP : va_P (dC, dI) vwCl (offS ad_4 tp_p_ hd_p_ tf_p_ cf_p_ g o_5) H_1 := hP
  have hD : va_D A (offS ad_4 tp_p_ hd_p_ tf_p_ cf_p_ g o_5) := hD
  refine W.widen (k := 5) (n := 30) (by omega) (by omega) ?_
  refine W.widen (k := 5) (n := 30) (by omega) (by omega) ?_
  exact W.iret (v := r_1) hx hb hr (fun t ht hW => ⟨⟨r_1, (ad_4, o_5, ()), rfl, ⟨hw, had_4⟩, ⟨P_at ht hP, hD⟩⟩, hS.F ht⟩) hS.2.2 dL_asks_239
theorem dL_asks_240 : decode cL_asks 240 = .ok (.aload_n 0, 1) := by decide +kernel
theorem dL_asks_241 : decode cL_asks 241 = .ok (.iload_n 2, 1) := by decide +kernel
theorem dL_asks_242 : decode cL_asks 242 = .ok (.iload_n 3, 1) := by decide +kernel
theorem dL_asks_243 : decode cL_asks 243 = .ok (.iload 4, 2) := by decide +kernel
theorem dL_asks_245 : decode cL_asks 245 = .ok (.invokevirtual 79, 3) := by decide +kernel
theorem dL_asks_248 : decode cL_asks 248 = .ok (.ireturn, 1) := by decide +kernel

set_option maxHeartbeats 8000000 in
set_option maxRecDepth 100000 in
theorem c_L_asks_19 (l : Launch) (hlf : l.stackTraces = false) (dC : Nat → ClassId) (dI : Nat → Nat → Nat) (g : Nat → ClassId) (tp_p_ hd_p_ : Nat → Nat) (tf_p_ cf_p_ : Nat → Option Nat) (htf_p_ : ∀ j, j < 8 → tf_p_ j = some (tp_p_ j)) (hcf_p_ : ∀ j, j < 8 → cf_p_ j = some (tp_p_ (8 + j))) (a_p_ : Nat → Nat) (t_p_ : Nat) (h_p_ : a_p_ 0 = t_p_) (o_p_ : OS) (a_ : Int32) (b_ : Int32) (c_ : Int32) (Q : Int32 → OS → Prop) (hw : wp_L_asks_19 o_p_ a_ b_ c_ Q) (sz : Nat) : Met l yL_asks wqL_asks ({ frames := 9, cells := 2, slots := 12, locals := 149 }) (va_Pc [.ref t_p_, .int 19, .int a_, .int b_, .int c_] (PG (dC, dI) g (offS a_p_ tp_p_ hd_p_ tf_p_ cf_p_ g o_p_) sz)) (va_Qi (fun (r : Int32) (u : (Nat → Nat) × OS × Unit) => Q r u.2.1 ∧ u.1 0 = t_p_) (fun (u : (Nat → Nat) × OS × Unit) t9 => va_P (dC, dI) vwCl (offS u.1 tp_p_ hd_p_ tf_p_ cf_p_ g u.2.1) t9.heap ∧ va_D (va_A (offS a_p_ tp_p_ hd_p_ tf_p_ cf_p_ g o_p_) sz) (offS u.1 tp_p_ hd_p_ tf_p_ cf_p_ g u.2.1)) (va_A (offS a_p_ tp_p_ hd_p_ tf_p_ cf_p_ g o_p_) sz)) 2 12 (va_A (offS a_p_ tp_p_ hd_p_ tf_p_ cf_p_ g o_p_) sz) := by
  refine mt_ofWH (cc := cL_asks) (maxL := 6) (ret := (some .int)) (hh := [(0, 100, 249, 82), (101, 111, 249, 82), (112, 122, 249, 82), (123, 129, 249, 82), (130, 138, 249, 82), (139, 145, 249, 82), (146, 154, 249, 82), (155, 161, 249, 82), (162, 168, 249, 82), (169, 174, 249, 82), (175, 179, 249, 82), (180, 185, 249, 82), (186, 195, 249, 82), (196, 202, 249, 82), (203, 209, 249, 82), (210, 216, 249, 82), (217, 221, 249, 82), (222, 228, 249, 82), (229, 239, 249, 82), (240, 248, 249, 82), (0, 100, 255, 84), (101, 111, 255, 84), (112, 122, 255, 84), (123, 129, 255, 84), (130, 138, 255, 84), (139, 145, 255, 84), (146, 154, 255, 84), (155, 161, 255, 84), (162, 168, 255, 84), (169, 174, 255, 84), (175, 179, 255, 84), (180, 185, 255, 84), (186, 195, 255, 84), (196, 202, 255, 84), (203, 209, 255, 84), (210, 216, 255, 84), (217, 221, 255, 84), (222, 228, 255, 84), (229, 239, 255, 84), (240, 248, 255, 84), (0, 100, 261, 86), (101, 111, 261, 86), (112, 122, 261, 86), (123, 129, 261, 86), (130, 138, 261, 86), (139, 145, 261, 86), (146, 154, 261, 86), (155, 161, 261, 86), (162, 168, 261, 86), (169, 174, 261, 86), (175, 179, 261, 86), (180, 185, 261, 86), (186, 195, 261, 86), (196, 202, 261, 86), (203, 209, 261, 86), (210, 216, 261, 86), (217, 221, 261, 86), (222, 228, 261, 86), (229, 239, 261, 86), (240, 248, 261, 86), (0, 100, 267, 88), (101, 111, 267, 88), (112, 122, 267, 88), (123, 129, 267, 88), (130, 138, 267, 88), (139, 145, 267, 88), (146, 154, 267, 88), (155, 161, 267, 88), (162, 168, 267, 88), (169, 174, 267, 88), (175, 179, 267, 88), (180, 185, 267, 88), (186, 195, 267, 88), (196, 202, 267, 88), (203, 209, 267, 88), (210, 216, 267, 88), (217, 221, 267, 88), (222, 228, 267, 88), (229, 239, 267, 88), (240, 248, 267, 88)]) (by decide) rfl ?_
  intro p e s m args below meth c s₁ B hml hv
  obtain ⟨rfl, hsz, hP, hK, hD0, hG⟩ := hv
  have hx := B.exec
  have hb := B.bytes
  have hr := B.returns
  have hts := atoms_spec (ws := wqL_asks) B.pre
  have hown : s.vm.findClass RL = some m.cls := findClass_of_methodNamed B.named
  have hlocks := B.notSynchronized
  subst hsz
  have hD := hD0.self (sz := s.heap.size)
  generalize hAe : va_A (offS a_p_ tp_p_ hd_p_ tf_p_ cf_p_ g o_p_) s.heap.size = A at hD hG ⊢
  have hA : ∀ q : Nat, s.heap.size ≤ q → A q := fun q h => by rw [← hAe]; exact Or.inr h
  have hS : va_S A s.heap s.heap [] := va_S.rf
  have hrc : (headSpec wqL_asks ({ frames := 9, cells := 2, slots := 12, locals := 149 })).room.cells = 2 := rfl
  have hrs : (headSpec wqL_asks ({ frames := 9, cells := 2, slots := 12, locals := 149 })).room.slots = 12 := rfl
  have hTab := vx_table (x := yL_asks) B (hts (Cond.codeWith yL_asks cL_asks 6 (some .int) [(0, 100, 249, 82), (101, 111, 249, 82), (112, 122, 249, 82), (123, 129, 249, 82), (130, 138, 249, 82), (139, 145, 249, 82), (146, 154, 249, 82), (155, 161, 249, 82), (162, 168, 249, 82), (169, 174, 249, 82), (175, 179, 249, 82), (180, 185, 249, 82), (186, 195, 249, 82), (196, 202, 249, 82), (203, 209, 249, 82), (210, 216, 249, 82), (217, 221, 249, 82), (222, 228, 249, 82), (229, 239, 249, 82), (240, 248, 249, 82), (0, 100, 255, 84), (101, 111, 255, 84), (112, 122, 255, 84), (123, 129, 255, 84), (130, 138, 255, 84), (139, 145, 255, 84), (146, 154, 255, 84), (155, 161, 255, 84), (162, 168, 255, 84), (169, 174, 255, 84), (175, 179, 255, 84), (180, 185, 255, 84), (186, 195, 255, 84), (196, 202, 255, 84), (203, 209, 255, 84), (210, 216, 255, 84), (217, 221, 255, 84), (222, 228, 255, 84), (229, 239, 255, 84), (240, 248, 255, 84), (0, 100, 261, 86), (101, 111, 261, 86), (112, 122, 261, 86), (123, 129, 261, 86), (130, 138, 261, 86), (139, 145, 261, 86), (146, 154, 261, 86), (155, 161, 261, 86), (162, 168, 261, 86), (169, 174, 261, 86), (175, 179, 261, 86), (180, 185, 261, 86), (186, 195, 261, 86), (196, 202, 261, 86), (203, 209, 261, 86), (210, 216, 261, 86), (217, 221, 261, 86), (222, 228, 261, 86), (229, 239, 261, 86), (240, 248, 261, 86), (0, 100, 267, 88), (101, 111, 267, 88), (112, 122, 267, 88), (123, 129, 267, 88), (130, 138, 267, 88), (139, 145, 267, 88), (146, 154, 267, 88), (155, 161, 267, 88), (162, 168, 267, 88), (169, 174, 267, 88), (175, 179, 267, 88), (180, 185, 267, 88), (186, 195, 267, 88), (196, 202, 267, 88), (203, 209, 267, 88), (210, 216, 267, 88), (217, 221, 267, 88), (222, 228, 267, 88), (229, 239, 267, 88), (240, 248, 267, 88)]) (List.mem_cons_self))
  have hl := lv_entry ([.ref t_p_, .int 19, .int a_, .int b_, .int c_]) (n := 6) (Nat.le_of_ble_eq_true rfl)
  rw [lg_entry_eq]
  generalize (lg_sl ([.ref t_p_, .int 19, .int a_, .int b_, .int c_]) ++ List.replicate (6 - (lg_sl ([.ref t_p_, .int 19, .int a_, .int b_, .int c_])).length) Slot.unset).toArray = ls at hl ⊢
  have hl : lv_has ls 6 [(0, .ref t_p_), (1, .int 19), (2, .int a_), (3, .int b_), (4, .int c_)] := hl
  unfold wp_L_asks_19 at hw
  have hxl82 := hts (Cond.classLink RL 82 "java/lang/IndexOutOfBoundsException") (aw_l aw_4_48)
  have hxl84 := hts (Cond.classLink RL 84 "java/util/NoSuchElementException") (aw_l aw_4_49)
  have hxl86 := hts (Cond.classLink RL 86 "java/lang/IllegalArgumentException") (aw_l aw_4_50)
  have hxl88 := hts (Cond.classLink RL 88 "java/lang/IllegalStateException") (aw_l aw_4_51)
  refine lv_iload_n hx hb dL_asks_0 rfl (lv_at hl 1 rfl) ?_
  refine lv_tableOut (tgt := 240) hx hb dL_asks_1 (by decide) (by decide) ?_
  refine lv_aload_n hx hb dL_asks_240 rfl (lv_at hl 0 rfl) ?_
  refine lv_iload_n hx hb dL_asks_241 rfl (lv_at hl 2 rfl) ?_
  refine lv_iload_n hx hb dL_asks_242 rfl (lv_at hl 3 rfl) ?_
  refine lv_iload hx hb dL_asks_243 (lv_at hl 4 rfl) ?_
  obtain ⟨hPs, hDs⟩ := seg_call (segs := [offS a_p_ tp_p_ hd_p_ tf_p_ cf_p_ g o_p_]) [] [offS a_p_ tp_p_ hd_p_ tf_p_ cf_p_ g o_p_] 1 [0] rfl rfl (by decide) hP hD
  have hPc : va_P (dC, dI) vwCl (offS a_p_ tp_p_ hd_p_ tf_p_ cf_p_ g o_p_) s.heap := P_r hPs
  have hDc : va_D A (offS a_p_ tp_p_ hd_p_ tf_p_ cf_p_ g o_p_) := D_r hDs
  have hFc : ∀ q, va_A (offS a_p_ tp_p_ hd_p_ tf_p_ cf_p_ g o_p_) s.heap.size q → A q := A_all hDc hA hS.1
  refine vx_calli (vx_runV (As := [.int a_, .int b_, .int c_]) (rest := []) ⟨hx, hb, hml, hown, hts⟩ (p_between l hlf dC dI g tp_p_ hd_p_ tf_p_ cf_p_ htf_p_ hcf_p_ a_p_ t_p_ h_p_ o_p_ a_ b_ c_ (hw := hw) (sz := s.heap.size)) (cwV 3 hts (gqV aw_5_223 aw_5_224 aw_5_225 aw_1_1 aw_5_226) rfl rfl rfl (by decide +kernel) ⟨Nat.le_of_ble_eq_true rfl, Nat.le_of_ble_eq_true rfl⟩) ⟨PG_blind, off_recv h_p_ hK hPc, PG_call hK hG hS hPc hDc hFc⟩ rfl rfl hl.1 rfl (lv_room (Nat.le_of_ble_eq_true rfl)) dL_asks_245 ⟨by rw [hrc]; omega, by rw [hrs]; omega⟩) hS (fun q _ h => hFc q h) hFc (fun q _ h => hFc q h) (fun E ce q9 ux t H1 locs1 ht hvm hp9 hB9 hz hk hS9 hce hcv hcl => ?_) (fun r_1 u_1 t_1 H_1 L_1 ht_1 hvm_1 hw_1 hB_1 hz_1 hk_1 hS => ?_)
  · obtain ⟨ad_2, o_3⟩ := ux
    obtain ⟨⟨hw9, had_2⟩, hB9⟩ := hB9
    rw [ht] at hB9
    obtain ⟨hP1, hD1⟩ := hB9
    obtain ⟨hP, hD⟩ := join_r hPs hDs hk hFc hP1 hD1
    obtain ⟨hP, hD⟩ := seg_join [] [offS ad_2 tp_p_ hd_p_ tf_p_ cf_p_ g o_3] [offS ad_2 tp_p_ hd_p_ tf_p_ cf_p_ g o_3] 1 [0] rfl rfl (by decide) hP hD
    have hP : va_P (dC, dI) vwCl (offS ad_2 tp_p_ hd_p_ tf_p_ cf_p_ g o_3) H1 := hP
    have hD : va_D A (offS ad_2 tp_p_ hd_p_ tf_p_ cf_p_ g o_3) := hD
    rcases hw9 with ⟨rfl, hw⟩ | ⟨rfl, hw⟩ | ⟨rfl, hw⟩ | ⟨rfl, hw⟩
    · refine vx_catch (own := RL) (name := "java/lang/IndexOutOfBoundsException") (E := "java/lang/IndexOutOfBoundsException") hown [⟨0, 100, 249, 82⟩, ⟨101, 111, 249, 82⟩, ⟨112, 122, 249, 82⟩, ⟨123, 129, 249, 82⟩, ⟨130, 138, 249, 82⟩, ⟨139, 145, 249, 82⟩, ⟨146, 154, 249, 82⟩, ⟨155, 161, 249, 82⟩, ⟨162, 168, 249, 82⟩, ⟨169, 174, 249, 82⟩, ⟨175, 179, 249, 82⟩, ⟨180, 185, 249, 82⟩, ⟨186, 195, 249, 82⟩, ⟨196, 202, 249, 82⟩, ⟨203, 209, 249, 82⟩, ⟨210, 216, 249, 82⟩, ⟨217, 221, 249, 82⟩, ⟨222, 228, 249, 82⟩, ⟨229, 239, 249, 82⟩] ⟨240, 248, 249, 82⟩ [⟨0, 100, 255, 84⟩, ⟨101, 111, 255, 84⟩, ⟨112, 122, 255, 84⟩, ⟨123, 129, 255, 84⟩, ⟨130, 138, 255, 84⟩, ⟨139, 145, 255, 84⟩, ⟨146, 154, 255, 84⟩, ⟨155, 161, 255, 84⟩, ⟨162, 168, 255, 84⟩, ⟨169, 174, 255, 84⟩, ⟨175, 179, 255, 84⟩, ⟨180, 185, 255, 84⟩, ⟨186, 195, 255, 84⟩, ⟨196, 202, 255, 84⟩, ⟨203, 209, 255, 84⟩, ⟨210, 216, 255, 84⟩, ⟨217, 221, 255, 84⟩, ⟨222, 228, 255, 84⟩, ⟨229, 239, 255, 84⟩, ⟨240, 248, 255, 84⟩, ⟨0, 100, 261, 86⟩, ⟨101, 111, 261, 86⟩, ⟨112, 122, 261, 86⟩, ⟨123, 129, 261, 86⟩, ⟨130, 138, 261, 86⟩, ⟨139, 145, 261, 86⟩, ⟨146, 154, 261, 86⟩, ⟨155, 161, 261, 86⟩, ⟨162, 168, 261, 86⟩, ⟨169, 174, 261, 86⟩, ⟨175, 179, 261, 86⟩, ⟨180, 185, 261, 86⟩, ⟨186, 195, 261, 86⟩, ⟨196, 202, 261, 86⟩, ⟨203, 209, 261, 86⟩, ⟨210, 216, 261, 86⟩, ⟨217, 221, 261, 86⟩, ⟨222, 228, 261, 86⟩, ⟨229, 239, 261, 86⟩, ⟨240, 248, 261, 86⟩, ⟨0, 100, 267, 88⟩, ⟨101, 111, 267, 88⟩, ⟨112, 122, 267, 88⟩, ⟨123, 129, 267, 88⟩, ⟨130, 138, 267, 88⟩, ⟨139, 145, 267, 88⟩, ⟨146, 154, 267, 88⟩, ⟨155, 161, 267, 88⟩, ⟨162, 168, 267, 88⟩, ⟨169, 174, 267, 88⟩, ⟨175, 179, 267, 88⟩, ⟨180, 185, 267, 88⟩, ⟨186, 195, 267, 88⟩, ⟨196, 202, 267, 88⟩, ⟨203, 209, 267, 88⟩, ⟨210, 216, 267, 88⟩, ⟨217, 221, 267, 88⟩, ⟨222, 228, 267, 88⟩, ⟨229, 239, 267, 88⟩, ⟨240, 248, 267, 88⟩] (by rw [hTab]; rfl) (fun z hz => (List.mem_cons.mp hz).elim (fun q => by subst q; exact Or.inl (by decide)) (fun hz => (List.mem_cons.mp hz).elim (fun q => by subst q; exact Or.inl (by decide)) (fun hz => (List.mem_cons.mp hz).elim (fun q => by subst q; exact Or.inl (by decide)) (fun hz => (List.mem_cons.mp hz).elim (fun q => by subst q; exact Or.inl (by decide)) (fun hz => (List.mem_cons.mp hz).elim (fun q => by subst q; exact Or.inl (by decide)) (fun hz => (List.mem_cons.mp hz).elim (fun q => by subst q; exact Or.inl (by decide)) (fun hz => (List.mem_cons.mp hz).elim (fun q => by subst q; exact Or.inl (by decide)) (fun hz => (List.mem_cons.mp hz).elim (fun q => by subst q; exact Or.inl (by decide)) (fun hz => (List.mem_cons.mp hz).elim (fun q => by subst q; exact Or.inl (by decide)) (fun hz => (List.mem_cons.mp hz).elim (fun q => by subst q; exact Or.inl (by decide)) (fun hz => (List.mem_cons.mp hz).elim (fun q => by subst q; exact Or.inl (by decide)) (fun hz => (List.mem_cons.mp hz).elim (fun q => by subst q; exact Or.inl (by decide)) (fun hz => (List.mem_cons.mp hz).elim (fun q => by subst q; exact Or.inl (by decide)) (fun hz => (List.mem_cons.mp hz).elim (fun q => by subst q; exact Or.inl (by decide)) (fun hz => (List.mem_cons.mp hz).elim (fun q => by subst q; exact Or.inl (by decide)) (fun hz => (List.mem_cons.mp hz).elim (fun q => by subst q; exact Or.inl (by decide)) (fun hz => (List.mem_cons.mp hz).elim (fun q => by subst q; exact Or.inl (by decide)) (fun hz => (List.mem_cons.mp hz).elim (fun q => by subst q; exact Or.inl (by decide)) (fun hz => (List.mem_cons.mp hz).elim (fun q => by subst q; exact Or.inl (by decide)) (fun hz => absurd hz List.not_mem_nil)))))))))))))))))))) (by decide) (by decide) hxl82 (xc_0 hG) hce hcv hcl ?_
      have hS := hS9
      have ht_1 := ht
      refine lv_astore (lv' := [(5, .ref q9), (0, .ref t_p_), (1, .int 19), (2, .int a_), (3, .int b_), (4, .int c_)]) hx hb dL_asks_249 hl (by decide) rfl (fun ls hl => ?_)
      refine lv_sipush (v := (-20001)) hx hb dL_asks_251 (by decide) ?_
      refine W.widen (k := 2) (n := 12) (by omega) (by omega) ?_
      exact W.iret (v := (-20001)) hx hb hr (fun t ht hW => ⟨⟨(-20001), (ad_2, o_3, ()), rfl, ⟨hw, had_2⟩, ⟨P_at ht hP, hD⟩⟩, hS.F ht⟩) hS.2.2 dL_asks_254
    · refine vx_catch (own := RL) (name := "java/util/NoSuchElementException") (E := "java/util/NoSuchElementException") hown [⟨0, 100, 249, 82⟩, ⟨101, 111, 249, 82⟩, ⟨112, 122, 249, 82⟩, ⟨123, 129, 249, 82⟩, ⟨130, 138, 249, 82⟩, ⟨139, 145, 249, 82⟩, ⟨146, 154, 249, 82⟩, ⟨155, 161, 249, 82⟩, ⟨162, 168, 249, 82⟩, ⟨169, 174, 249, 82⟩, ⟨175, 179, 249, 82⟩, ⟨180, 185, 249, 82⟩, ⟨186, 195, 249, 82⟩, ⟨196, 202, 249, 82⟩, ⟨203, 209, 249, 82⟩, ⟨210, 216, 249, 82⟩, ⟨217, 221, 249, 82⟩, ⟨222, 228, 249, 82⟩, ⟨229, 239, 249, 82⟩, ⟨240, 248, 249, 82⟩, ⟨0, 100, 255, 84⟩, ⟨101, 111, 255, 84⟩, ⟨112, 122, 255, 84⟩, ⟨123, 129, 255, 84⟩, ⟨130, 138, 255, 84⟩, ⟨139, 145, 255, 84⟩, ⟨146, 154, 255, 84⟩, ⟨155, 161, 255, 84⟩, ⟨162, 168, 255, 84⟩, ⟨169, 174, 255, 84⟩, ⟨175, 179, 255, 84⟩, ⟨180, 185, 255, 84⟩, ⟨186, 195, 255, 84⟩, ⟨196, 202, 255, 84⟩, ⟨203, 209, 255, 84⟩, ⟨210, 216, 255, 84⟩, ⟨217, 221, 255, 84⟩, ⟨222, 228, 255, 84⟩, ⟨229, 239, 255, 84⟩] ⟨240, 248, 255, 84⟩ [⟨0, 100, 261, 86⟩, ⟨101, 111, 261, 86⟩, ⟨112, 122, 261, 86⟩, ⟨123, 129, 261, 86⟩, ⟨130, 138, 261, 86⟩, ⟨139, 145, 261, 86⟩, ⟨146, 154, 261, 86⟩, ⟨155, 161, 261, 86⟩, ⟨162, 168, 261, 86⟩, ⟨169, 174, 261, 86⟩, ⟨175, 179, 261, 86⟩, ⟨180, 185, 261, 86⟩, ⟨186, 195, 261, 86⟩, ⟨196, 202, 261, 86⟩, ⟨203, 209, 261, 86⟩, ⟨210, 216, 261, 86⟩, ⟨217, 221, 261, 86⟩, ⟨222, 228, 261, 86⟩, ⟨229, 239, 261, 86⟩, ⟨240, 248, 261, 86⟩, ⟨0, 100, 267, 88⟩, ⟨101, 111, 267, 88⟩, ⟨112, 122, 267, 88⟩, ⟨123, 129, 267, 88⟩, ⟨130, 138, 267, 88⟩, ⟨139, 145, 267, 88⟩, ⟨146, 154, 267, 88⟩, ⟨155, 161, 267, 88⟩, ⟨162, 168, 267, 88⟩, ⟨169, 174, 267, 88⟩, ⟨175, 179, 267, 88⟩, ⟨180, 185, 267, 88⟩, ⟨186, 195, 267, 88⟩, ⟨196, 202, 267, 88⟩, ⟨203, 209, 267, 88⟩, ⟨210, 216, 267, 88⟩, ⟨217, 221, 267, 88⟩, ⟨222, 228, 267, 88⟩, ⟨229, 239, 267, 88⟩, ⟨240, 248, 267, 88⟩] (by rw [hTab]; rfl) (fun z hz => (List.mem_cons.mp hz).elim (fun q => by subst q; exact Or.inl (by decide)) (fun hz => (List.mem_cons.mp hz).elim (fun q => by subst q; exact Or.inl (by decide)) (fun hz => (List.mem_cons.mp hz).elim (fun q => by subst q; exact Or.inl (by decide)) (fun hz => (List.mem_cons.mp hz).elim (fun q => by subst q; exact Or.inl (by decide)) (fun hz => (List.mem_cons.mp hz).elim (fun q => by subst q; exact Or.inl (by decide)) (fun hz => (List.mem_cons.mp hz).elim (fun q => by subst q; exact Or.inl (by decide)) (fun hz => (List.mem_cons.mp hz).elim (fun q => by subst q; exact Or.inl (by decide)) (fun hz => (List.mem_cons.mp hz).elim (fun q => by subst q; exact Or.inl (by decide)) (fun hz => (List.mem_cons.mp hz).elim (fun q => by subst q; exact Or.inl (by decide)) (fun hz => (List.mem_cons.mp hz).elim (fun q => by subst q; exact Or.inl (by decide)) (fun hz => (List.mem_cons.mp hz).elim (fun q => by subst q; exact Or.inl (by decide)) (fun hz => (List.mem_cons.mp hz).elim (fun q => by subst q; exact Or.inl (by decide)) (fun hz => (List.mem_cons.mp hz).elim (fun q => by subst q; exact Or.inl (by decide)) (fun hz => (List.mem_cons.mp hz).elim (fun q => by subst q; exact Or.inl (by decide)) (fun hz => (List.mem_cons.mp hz).elim (fun q => by subst q; exact Or.inl (by decide)) (fun hz => (List.mem_cons.mp hz).elim (fun q => by subst q; exact Or.inl (by decide)) (fun hz => (List.mem_cons.mp hz).elim (fun q => by subst q; exact Or.inl (by decide)) (fun hz => (List.mem_cons.mp hz).elim (fun q => by subst q; exact Or.inl (by decide)) (fun hz => (List.mem_cons.mp hz).elim (fun q => by subst q; exact Or.inl (by decide)) (fun hz => (List.mem_cons.mp hz).elim (fun q => by subst q; exact Or.inr ⟨by decide, _, hxl82, nc_0 hG⟩) (fun hz => (List.mem_cons.mp hz).elim (fun q => by subst q; exact Or.inl (by decide)) (fun hz => (List.mem_cons.mp hz).elim (fun q => by subst q; exact Or.inl (by decide)) (fun hz => (List.mem_cons.mp hz).elim (fun q => by subst q; exact Or.inl (by decide)) (fun hz => (List.mem_cons.mp hz).elim (fun q => by subst q; exact Or.inl (by decide)) (fun hz => (List.mem_cons.mp hz).elim (fun q => by subst q; exact Or.inl (by decide)) (fun hz => (List.mem_cons.mp hz).elim (fun q => by subst q; exact Or.inl (by decide)) (fun hz => (List.mem_cons.mp hz).elim (fun q => by subst q; exact Or.inl (by decide)) (fun hz => (List.mem_cons.mp hz).elim (fun q => by subst q; exact Or.inl (by decide)) (fun hz => (List.mem_cons.mp hz).elim (fun q => by subst q; exact Or.inl (by decide)) (fun hz => (List.mem_cons.mp hz).elim (fun q => by subst q; exact Or.inl (by decide)) (fun hz => (List.mem_cons.mp hz).elim (fun q => by subst q; exact Or.inl (by decide)) (fun hz => (List.mem_cons.mp hz).elim (fun q => by subst q; exact Or.inl (by decide)) (fun hz => (List.mem_cons.mp hz).elim (fun q => by subst q; exact Or.inl (by decide)) (fun hz => (List.mem_cons.mp hz).elim (fun q => by subst q; exact Or.inl (by decide)) (fun hz => (List.mem_cons.mp hz).elim (fun q => by subst q; exact Or.inl (by decide)) (fun hz => (List.mem_cons.mp hz).elim (fun q => by subst q; exact Or.inl (by decide)) (fun hz => (List.mem_cons.mp hz).elim (fun q => by subst q; exact Or.inl (by decide)) (fun hz => (List.mem_cons.mp hz).elim (fun q => by subst q; exact Or.inl (by decide)) (fun hz => (List.mem_cons.mp hz).elim (fun q => by subst q; exact Or.inl (by decide)) (fun hz => absurd hz List.not_mem_nil)))))))))))))))))))))))))))))))))))))))) (by decide) (by decide) hxl84 (xc_3 hG) hce hcv hcl ?_
      have hS := hS9
      have ht_1 := ht
      refine lv_astore (lv' := [(5, .ref q9), (0, .ref t_p_), (1, .int 19), (2, .int a_), (3, .int b_), (4, .int c_)]) hx hb dL_asks_255 hl (by decide) rfl (fun ls hl => ?_)
      refine lv_sipush (v := (-20002)) hx hb dL_asks_257 (by decide) ?_
      refine W.widen (k := 2) (n := 12) (by omega) (by omega) ?_
      exact W.iret (v := (-20002)) hx hb hr (fun t ht hW => ⟨⟨(-20002), (ad_2, o_3, ()), rfl, ⟨hw, had_2⟩, ⟨P_at ht hP, hD⟩⟩, hS.F ht⟩) hS.2.2 dL_asks_260
    · refine vx_catch (own := RL) (name := "java/lang/IllegalArgumentException") (E := "java/lang/IllegalArgumentException") hown [⟨0, 100, 249, 82⟩, ⟨101, 111, 249, 82⟩, ⟨112, 122, 249, 82⟩, ⟨123, 129, 249, 82⟩, ⟨130, 138, 249, 82⟩, ⟨139, 145, 249, 82⟩, ⟨146, 154, 249, 82⟩, ⟨155, 161, 249, 82⟩, ⟨162, 168, 249, 82⟩, ⟨169, 174, 249, 82⟩, ⟨175, 179, 249, 82⟩, ⟨180, 185, 249, 82⟩, ⟨186, 195, 249, 82⟩, ⟨196, 202, 249, 82⟩, ⟨203, 209, 249, 82⟩, ⟨210, 216, 249, 82⟩, ⟨217, 221, 249, 82⟩, ⟨222, 228, 249, 82⟩, ⟨229, 239, 249, 82⟩, ⟨240, 248, 249, 82⟩, ⟨0, 100, 255, 84⟩, ⟨101, 111, 255, 84⟩, ⟨112, 122, 255, 84⟩, ⟨123, 129, 255, 84⟩, ⟨130, 138, 255, 84⟩, ⟨139, 145, 255, 84⟩, ⟨146, 154, 255, 84⟩, ⟨155, 161, 255, 84⟩, ⟨162, 168, 255, 84⟩, ⟨169, 174, 255, 84⟩, ⟨175, 179, 255, 84⟩, ⟨180, 185, 255, 84⟩, ⟨186, 195, 255, 84⟩, ⟨196, 202, 255, 84⟩, ⟨203, 209, 255, 84⟩, ⟨210, 216, 255, 84⟩, ⟨217, 221, 255, 84⟩, ⟨222, 228, 255, 84⟩, ⟨229, 239, 255, 84⟩, ⟨240, 248, 255, 84⟩, ⟨0, 100, 261, 86⟩, ⟨101, 111, 261, 86⟩, ⟨112, 122, 261, 86⟩, ⟨123, 129, 261, 86⟩, ⟨130, 138, 261, 86⟩, ⟨139, 145, 261, 86⟩, ⟨146, 154, 261, 86⟩, ⟨155, 161, 261, 86⟩, ⟨162, 168, 261, 86⟩, ⟨169, 174, 261, 86⟩, ⟨175, 179, 261, 86⟩, ⟨180, 185, 261, 86⟩, ⟨186, 195, 261, 86⟩, ⟨196, 202, 261, 86⟩, ⟨203, 209, 261, 86⟩, ⟨210, 216, 261, 86⟩, ⟨217, 221, 261, 86⟩, ⟨222, 228, 261, 86⟩, ⟨229, 239, 261, 86⟩] ⟨240, 248, 261, 86⟩ [⟨0, 100, 267, 88⟩, ⟨101, 111, 267, 88⟩, ⟨112, 122, 267, 88⟩, ⟨123, 129, 267, 88⟩, ⟨130, 138, 267, 88⟩, ⟨139, 145, 267, 88⟩, ⟨146, 154, 267, 88⟩, ⟨155, 161, 267, 88⟩, ⟨162, 168, 267, 88⟩, ⟨169, 174, 267, 88⟩, ⟨175, 179, 267, 88⟩, ⟨180, 185, 267, 88⟩, ⟨186, 195, 267, 88⟩, ⟨196, 202, 267, 88⟩, ⟨203, 209, 267, 88⟩, ⟨210, 216, 267, 88⟩, ⟨217, 221, 267, 88⟩, ⟨222, 228, 267, 88⟩, ⟨229, 239, 267, 88⟩, ⟨240, 248, 267, 88⟩] (by rw [hTab]; rfl) (fun z hz => (List.mem_cons.mp hz).elim (fun q => by subst q; exact Or.inl (by decide)) (fun hz => (List.mem_cons.mp hz).elim (fun q => by subst q; exact Or.inl (by decide)) (fun hz => (List.mem_cons.mp hz).elim (fun q => by subst q; exact Or.inl (by decide)) (fun hz => (List.mem_cons.mp hz).elim (fun q => by subst q; exact Or.inl (by decide)) (fun hz => (List.mem_cons.mp hz).elim (fun q => by subst q; exact Or.inl (by decide)) (fun hz => (List.mem_cons.mp hz).elim (fun q => by subst q; exact Or.inl (by decide)) (fun hz => (List.mem_cons.mp hz).elim (fun q => by subst q; exact Or.inl (by decide)) (fun hz => (List.mem_cons.mp hz).elim (fun q => by subst q; exact Or.inl (by decide)) (fun hz => (List.mem_cons.mp hz).elim (fun q => by subst q; exact Or.inl (by decide)) (fun hz => (List.mem_cons.mp hz).elim (fun q => by subst q; exact Or.inl (by decide)) (fun hz => (List.mem_cons.mp hz).elim (fun q => by subst q; exact Or.inl (by decide)) (fun hz => (List.mem_cons.mp hz).elim (fun q => by subst q; exact Or.inl (by decide)) (fun hz => (List.mem_cons.mp hz).elim (fun q => by subst q; exact Or.inl (by decide)) (fun hz => (List.mem_cons.mp hz).elim (fun q => by subst q; exact Or.inl (by decide)) (fun hz => (List.mem_cons.mp hz).elim (fun q => by subst q; exact Or.inl (by decide)) (fun hz => (List.mem_cons.mp hz).elim (fun q => by subst q; exact Or.inl (by decide)) (fun hz => (List.mem_cons.mp hz).elim (fun q => by subst q; exact Or.inl (by decide)) (fun hz => (List.mem_cons.mp hz).elim (fun q => by subst q; exact Or.inl (by decide)) (fun hz => (List.mem_cons.mp hz).elim (fun q => by subst q; exact Or.inl (by decide)) (fun hz => (List.mem_cons.mp hz).elim (fun q => by subst q; exact Or.inr ⟨by decide, _, hxl82, nc_1 hG⟩) (fun hz => (List.mem_cons.mp hz).elim (fun q => by subst q; exact Or.inl (by decide)) (fun hz => (List.mem_cons.mp hz).elim (fun q => by subst q; exact Or.inl (by decide)) (fun hz => (List.mem_cons.mp hz).elim (fun q => by subst q; exact Or.inl (by decide)) (fun hz => (List.mem_cons.mp hz).elim (fun q => by subst q; exact Or.inl (by decide)) (fun hz => (List.mem_cons.mp hz).elim (fun q => by subst q; exact Or.inl (by decide)) (fun hz => (List.mem_cons.mp hz).elim (fun q => by subst q; exact Or.inl (by decide)) (fun hz => (List.mem_cons.mp hz).elim (fun q => by subst q; exact Or.inl (by decide)) (fun hz => (List.mem_cons.mp hz).elim (fun q => by subst q; exact Or.inl (by decide)) (fun hz => (List.mem_cons.mp hz).elim (fun q => by subst q; exact Or.inl (by decide)) (fun hz => (List.mem_cons.mp hz).elim (fun q => by subst q; exact Or.inl (by decide)) (fun hz => (List.mem_cons.mp hz).elim (fun q => by subst q; exact Or.inl (by decide)) (fun hz => (List.mem_cons.mp hz).elim (fun q => by subst q; exact Or.inl (by decide)) (fun hz => (List.mem_cons.mp hz).elim (fun q => by subst q; exact Or.inl (by decide)) (fun hz => (List.mem_cons.mp hz).elim (fun q => by subst q; exact Or.inl (by decide)) (fun hz => (List.mem_cons.mp hz).elim (fun q => by subst q; exact Or.inl (by decide)) (fun hz => (List.mem_cons.mp hz).elim (fun q => by subst q; exact Or.inl (by decide)) (fun hz => (List.mem_cons.mp hz).elim (fun q => by subst q; exact Or.inl (by decide)) (fun hz => (List.mem_cons.mp hz).elim (fun q => by subst q; exact Or.inl (by decide)) (fun hz => (List.mem_cons.mp hz).elim (fun q => by subst q; exact Or.inl (by decide)) (fun hz => (List.mem_cons.mp hz).elim (fun q => by subst q; exact Or.inr ⟨by decide, _, hxl84, nc_2 hG⟩) (fun hz => (List.mem_cons.mp hz).elim (fun q => by subst q; exact Or.inl (by decide)) (fun hz => (List.mem_cons.mp hz).elim (fun q => by subst q; exact Or.inl (by decide)) (fun hz => (List.mem_cons.mp hz).elim (fun q => by subst q; exact Or.inl (by decide)) (fun hz => (List.mem_cons.mp hz).elim (fun q => by subst q; exact Or.inl (by decide)) (fun hz => (List.mem_cons.mp hz).elim (fun q => by subst q; exact Or.inl (by decide)) (fun hz => (List.mem_cons.mp hz).elim (fun q => by subst q; exact Or.inl (by decide)) (fun hz => (List.mem_cons.mp hz).elim (fun q => by subst q; exact Or.inl (by decide)) (fun hz => (List.mem_cons.mp hz).elim (fun q => by subst q; exact Or.inl (by decide)) (fun hz => (List.mem_cons.mp hz).elim (fun q => by subst q; exact Or.inl (by decide)) (fun hz => (List.mem_cons.mp hz).elim (fun q => by subst q; exact Or.inl (by decide)) (fun hz => (List.mem_cons.mp hz).elim (fun q => by subst q; exact Or.inl (by decide)) (fun hz => (List.mem_cons.mp hz).elim (fun q => by subst q; exact Or.inl (by decide)) (fun hz => (List.mem_cons.mp hz).elim (fun q => by subst q; exact Or.inl (by decide)) (fun hz => (List.mem_cons.mp hz).elim (fun q => by subst q; exact Or.inl (by decide)) (fun hz => (List.mem_cons.mp hz).elim (fun q => by subst q; exact Or.inl (by decide)) (fun hz => (List.mem_cons.mp hz).elim (fun q => by subst q; exact Or.inl (by decide)) (fun hz => (List.mem_cons.mp hz).elim (fun q => by subst q; exact Or.inl (by decide)) (fun hz => (List.mem_cons.mp hz).elim (fun q => by subst q; exact Or.inl (by decide)) (fun hz => (List.mem_cons.mp hz).elim (fun q => by subst q; exact Or.inl (by decide)) (fun hz => absurd hz List.not_mem_nil)))))))))))))))))))))))))))))))))))))))))))))))))))))))))))) (by decide) (by decide) hxl86 (xc_1 hG) hce hcv hcl ?_
      have hS := hS9
      have ht_1 := ht
      refine lv_astore (lv' := [(5, .ref q9), (0, .ref t_p_), (1, .int 19), (2, .int a_), (3, .int b_), (4, .int c_)]) hx hb dL_asks_261 hl (by decide) rfl (fun ls hl => ?_)
      refine lv_sipush (v := (-20003)) hx hb dL_asks_263 (by decide) ?_
      refine W.widen (k := 2) (n := 12) (by omega) (by omega) ?_
      exact W.iret (v := (-20003)) hx hb hr (fun t ht hW => ⟨⟨(-20003), (ad_2, o_3, ()), rfl, ⟨hw, had_2⟩, ⟨P_at ht hP, hD⟩⟩, hS.F ht⟩) hS.2.2 dL_asks_266
    · refine vx_catch (own := RL) (name := "java/lang/IllegalStateException") (E := "java/lang/IllegalStateException") hown [⟨0, 100, 249, 82⟩, ⟨101, 111, 249, 82⟩, ⟨112, 122, 249, 82⟩, ⟨123, 129, 249, 82⟩, ⟨130, 138, 249, 82⟩, ⟨139, 145, 249, 82⟩, ⟨146, 154, 249, 82⟩, ⟨155, 161, 249, 82⟩, ⟨162, 168, 249, 82⟩, ⟨169, 174, 249, 82⟩, ⟨175, 179, 249, 82⟩, ⟨180, 185, 249, 82⟩, ⟨186, 195, 249, 82⟩, ⟨196, 202, 249, 82⟩, ⟨203, 209, 249, 82⟩, ⟨210, 216, 249, 82⟩, ⟨217, 221, 249, 82⟩, ⟨222, 228, 249, 82⟩, ⟨229, 239, 249, 82⟩, ⟨240, 248, 249, 82⟩, ⟨0, 100, 255, 84⟩, ⟨101, 111, 255, 84⟩, ⟨112, 122, 255, 84⟩, ⟨123, 129, 255, 84⟩, ⟨130, 138, 255, 84⟩, ⟨139, 145, 255, 84⟩, ⟨146, 154, 255, 84⟩, ⟨155, 161, 255, 84⟩, ⟨162, 168, 255, 84⟩, ⟨169, 174, 255, 84⟩, ⟨175, 179, 255, 84⟩, ⟨180, 185, 255, 84⟩, ⟨186, 195, 255, 84⟩, ⟨196, 202, 255, 84⟩, ⟨203, 209, 255, 84⟩, ⟨210, 216, 255, 84⟩, ⟨217, 221, 255, 84⟩, ⟨222, 228, 255, 84⟩, ⟨229, 239, 255, 84⟩, ⟨240, 248, 255, 84⟩, ⟨0, 100, 261, 86⟩, ⟨101, 111, 261, 86⟩, ⟨112, 122, 261, 86⟩, ⟨123, 129, 261, 86⟩, ⟨130, 138, 261, 86⟩, ⟨139, 145, 261, 86⟩, ⟨146, 154, 261, 86⟩, ⟨155, 161, 261, 86⟩, ⟨162, 168, 261, 86⟩, ⟨169, 174, 261, 86⟩, ⟨175, 179, 261, 86⟩, ⟨180, 185, 261, 86⟩, ⟨186, 195, 261, 86⟩, ⟨196, 202, 261, 86⟩, ⟨203, 209, 261, 86⟩, ⟨210, 216, 261, 86⟩, ⟨217, 221, 261, 86⟩, ⟨222, 228, 261, 86⟩, ⟨229, 239, 261, 86⟩, ⟨240, 248, 261, 86⟩, ⟨0, 100, 267, 88⟩, ⟨101, 111, 267, 88⟩, ⟨112, 122, 267, 88⟩, ⟨123, 129, 267, 88⟩, ⟨130, 138, 267, 88⟩, ⟨139, 145, 267, 88⟩, ⟨146, 154, 267, 88⟩, ⟨155, 161, 267, 88⟩, ⟨162, 168, 267, 88⟩, ⟨169, 174, 267, 88⟩, ⟨175, 179, 267, 88⟩, ⟨180, 185, 267, 88⟩, ⟨186, 195, 267, 88⟩, ⟨196, 202, 267, 88⟩, ⟨203, 209, 267, 88⟩, ⟨210, 216, 267, 88⟩, ⟨217, 221, 267, 88⟩, ⟨222, 228, 267, 88⟩, ⟨229, 239, 267, 88⟩] ⟨240, 248, 267, 88⟩ [] (by rw [hTab]; rfl) (fun z hz => (List.mem_cons.mp hz).elim (fun q => by subst q; exact Or.inl (by decide)) (fun hz => (List.mem_cons.mp hz).elim (fun q => by subst q; exact Or.inl (by decide)) (fun hz => (List.mem_cons.mp hz).elim (fun q => by subst q; exact Or.inl (by decide)) (fun hz => (List.mem_cons.mp hz).elim (fun q => by subst q; exact Or.inl (by decide)) (fun hz => (List.mem_cons.mp hz).elim (fun q => by subst q; exact Or.inl (by decide)) (fun hz => (List.mem_cons.mp hz).elim (fun q => by subst q; exact Or.inl (by decide)) (fun hz => (List.mem_cons.mp hz).elim (fun q => by subst q; exact Or.inl (by decide)) (fun hz => (List.mem_cons.mp hz).elim (fun q => by subst q; exact Or.inl (by decide)) (fun hz => (List.mem_cons.mp hz).elim (fun q => by subst q; exact Or.inl (by decide)) (fun hz => (List.mem_cons.mp hz).elim (fun q => by subst q; exact Or.inl (by decide)) (fun hz => (List.mem_cons.mp hz).elim (fun q => by subst q; exact Or.inl (by decide)) (fun hz => (List.mem_cons.mp hz).elim (fun q => by subst q; exact Or.inl (by decide)) (fun hz => (List.mem_cons.mp hz).elim (fun q => by subst q; exact Or.inl (by decide)) (fun hz => (List.mem_cons.mp hz).elim (fun q => by subst q; exact Or.inl (by decide)) (fun hz => (List.mem_cons.mp hz).elim (fun q => by subst q; exact Or.inl (by decide)) (fun hz => (List.mem_cons.mp hz).elim (fun q => by subst q; exact Or.inl (by decide)) (fun hz => (List.mem_cons.mp hz).elim (fun q => by subst q; exact Or.inl (by decide)) (fun hz => (List.mem_cons.mp hz).elim (fun q => by subst q; exact Or.inl (by decide)) (fun hz => (List.mem_cons.mp hz).elim (fun q => by subst q; exact Or.inl (by decide)) (fun hz => (List.mem_cons.mp hz).elim (fun q => by subst q; exact Or.inr ⟨by decide, _, hxl82, nc_3 hG⟩) (fun hz => (List.mem_cons.mp hz).elim (fun q => by subst q; exact Or.inl (by decide)) (fun hz => (List.mem_cons.mp hz).elim (fun q => by subst q; exact Or.inl (by decide)) (fun hz => (List.mem_cons.mp hz).elim (fun q => by subst q; exact Or.inl (by decide)) (fun hz => (List.mem_cons.mp hz).elim (fun q => by subst q; exact Or.inl (by decide)) (fun hz => (List.mem_cons.mp hz).elim (fun q => by subst q; exact Or.inl (by decide)) (fun hz => (List.mem_cons.mp hz).elim (fun q => by subst q; exact Or.inl (by decide)) (fun hz => (List.mem_cons.mp hz).elim (fun q => by subst q; exact Or.inl (by decide)) (fun hz => (List.mem_cons.mp hz).elim (fun q => by subst q; exact Or.inl (by decide)) (fun hz => (List.mem_cons.mp hz).elim (fun q => by subst q; exact Or.inl (by decide)) (fun hz => (List.mem_cons.mp hz).elim (fun q => by subst q; exact Or.inl (by decide)) (fun hz => (List.mem_cons.mp hz).elim (fun q => by subst q; exact Or.inl (by decide)) (fun hz => (List.mem_cons.mp hz).elim (fun q => by subst q; exact Or.inl (by decide)) (fun hz => (List.mem_cons.mp hz).elim (fun q => by subst q; exact Or.inl (by decide)) (fun hz => (List.mem_cons.mp hz).elim (fun q => by subst q; exact Or.inl (by decide)) (fun hz => (List.mem_cons.mp hz).elim (fun q => by subst q; exact Or.inl (by decide)) (fun hz => (List.mem_cons.mp hz).elim (fun q => by subst q; exact Or.inl (by decide)) (fun hz => (List.mem_cons.mp hz).elim (fun q => by subst q; exact Or.inl (by decide)) (fun hz => (List.mem_cons.mp hz).elim (fun q => by subst q; exact Or.inl (by decide)) (fun hz => (List.mem_cons.mp hz).elim (fun q => by subst q; exact Or.inl (by decide)) (fun hz => (List.mem_cons.mp hz).elim (fun q => by subst q; exact Or.inr ⟨by decide, _, hxl84, nc_4 hG⟩) (fun hz => (List.mem_cons.mp hz).elim (fun q => by subst q; exact Or.inl (by decide)) (fun hz => (List.mem_cons.mp hz).elim (fun q => by subst q; exact Or.inl (by decide)) (fun hz => (List.mem_cons.mp hz).elim (fun q => by subst q; exact Or.inl (by decide)) (fun hz => (List.mem_cons.mp hz).elim (fun q => by subst q; exact Or.inl (by decide)) (fun hz => (List.mem_cons.mp hz).elim (fun q => by subst q; exact Or.inl (by decide)) (fun hz => (List.mem_cons.mp hz).elim (fun q => by subst q; exact Or.inl (by decide)) (fun hz => (List.mem_cons.mp hz).elim (fun q => by subst q; exact Or.inl (by decide)) (fun hz => (List.mem_cons.mp hz).elim (fun q => by subst q; exact Or.inl (by decide)) (fun hz => (List.mem_cons.mp hz).elim (fun q => by subst q; exact Or.inl (by decide)) (fun hz => (List.mem_cons.mp hz).elim (fun q => by subst q; exact Or.inl (by decide)) (fun hz => (List.mem_cons.mp hz).elim (fun q => by subst q; exact Or.inl (by decide)) (fun hz => (List.mem_cons.mp hz).elim (fun q => by subst q; exact Or.inl (by decide)) (fun hz => (List.mem_cons.mp hz).elim (fun q => by subst q; exact Or.inl (by decide)) (fun hz => (List.mem_cons.mp hz).elim (fun q => by subst q; exact Or.inl (by decide)) (fun hz => (List.mem_cons.mp hz).elim (fun q => by subst q; exact Or.inl (by decide)) (fun hz => (List.mem_cons.mp hz).elim (fun q => by subst q; exact Or.inl (by decide)) (fun hz => (List.mem_cons.mp hz).elim (fun q => by subst q; exact Or.inl (by decide)) (fun hz => (List.mem_cons.mp hz).elim (fun q => by subst q; exact Or.inl (by decide)) (fun hz => (List.mem_cons.mp hz).elim (fun q => by subst q; exact Or.inl (by decide)) (fun hz => (List.mem_cons.mp hz).elim (fun q => by subst q; exact Or.inr ⟨by decide, _, hxl86, nc_5 hG⟩) (fun hz => (List.mem_cons.mp hz).elim (fun q => by subst q; exact Or.inl (by decide)) (fun hz => (List.mem_cons.mp hz).elim (fun q => by subst q; exact Or.inl (by decide)) (fun hz => (List.mem_cons.mp hz).elim (fun q => by subst q; exact Or.inl (by decide)) (fun hz => (List.mem_cons.mp hz).elim (fun q => by subst q; exact Or.inl (by decide)) (fun hz => (List.mem_cons.mp hz).elim (fun q => by subst q; exact Or.inl (by decide)) (fun hz => (List.mem_cons.mp hz).elim (fun q => by subst q; exact Or.inl (by decide)) (fun hz => (List.mem_cons.mp hz).elim (fun q => by subst q; exact Or.inl (by decide)) (fun hz => (List.mem_cons.mp hz).elim (fun q => by subst q; exact Or.inl (by decide)) (fun hz => (List.mem_cons.mp hz).elim (fun q => by subst q; exact Or.inl (by decide)) (fun hz => (List.mem_cons.mp hz).elim (fun q => by subst q; exact Or.inl (by decide)) (fun hz => (List.mem_cons.mp hz).elim (fun q => by subst q; exact Or.inl (by decide)) (fun hz => (List.mem_cons.mp hz).elim (fun q => by subst q; exact Or.inl (by decide)) (fun hz => (List.mem_cons.mp hz).elim (fun q => by subst q; exact Or.inl (by decide)) (fun hz => (List.mem_cons.mp hz).elim (fun q => by subst q; exact Or.inl (by decide)) (fun hz => (List.mem_cons.mp hz).elim (fun q => by subst q; exact Or.inl (by decide)) (fun hz => (List.mem_cons.mp hz).elim (fun q => by subst q; exact Or.inl (by decide)) (fun hz => (List.mem_cons.mp hz).elim (fun q => by subst q; exact Or.inl (by decide)) (fun hz => (List.mem_cons.mp hz).elim (fun q => by subst q; exact Or.inl (by decide)) (fun hz => (List.mem_cons.mp hz).elim (fun q => by subst q; exact Or.inl (by decide)) (fun hz => absurd hz List.not_mem_nil)))))))))))))))))))))))))))))))))))))))))))))))))))))))))))))))))))))))))))))))) (by decide) (by decide) hxl88 (xc_2 hG) hce hcv hcl ?_
      have hS := hS9
      have ht_1 := ht
      refine lv_astore (lv' := [(5, .ref q9), (0, .ref t_p_), (1, .int 19), (2, .int a_), (3, .int b_), (4, .int c_)]) hx hb dL_asks_267 hl (by decide) rfl (fun ls hl => ?_)
      refine lv_sipush (v := (-20004)) hx hb dL_asks_269 (by decide) ?_
      refine W.widen (k := 2) (n := 12) (by omega) (by omega) ?_
      exact W.iret (v := (-20004)) hx hb hr (fun t ht hW => ⟨⟨(-20004), (ad_2, o_3, ()), rfl, ⟨hw, had_2⟩, ⟨P_at ht hP, hD⟩⟩, hS.F ht⟩) hS.2.2 dL_asks_272
  obtain ⟨ad_4, o_5⟩ := u_1
  obtain ⟨hw, had_4⟩ := hw_1
  rw [ht_1] at hB_1
  obtain ⟨hP1, hD1⟩ := hB_1
  obtain ⟨hP, hD⟩ := join_r hPs hDs hk_1 hFc hP1 hD1
  obtain ⟨hP, hD⟩ := seg_join [] [offS ad_4 tp_p_ hd_p_ tf_p_ cf_p_ g o_5] [offS ad_4 tp_p_ hd_p_ tf_p_ cf_p_ g o_5] 1 [0] rfl rfl (by decide) hP hD
  have hP : va_P (dC, dI) vwCl (offS ad_4 tp_p_ hd_p_ tf_p_ cf_p_ g o_5) H_1 := hP
  have hD : va_D A (offS ad_4 tp_p_ hd_p_ tf_p_ cf_p_ g o_5) := hD
  refine W.widen (k := 2) (n := 12) (by omega) (by omega) ?_
  refine W.widen (k := 2) (n := 12) (by omega) (by omega) ?_
  exact W.iret (v := r_1) hx hb hr (fun t ht hW => ⟨⟨r_1, (ad_4, o_5, ()), rfl, ⟨hw, had_4⟩, ⟨P_at ht hP, hD⟩⟩, hS.F ht⟩) hS.2.2 dL_asks_248


set_option maxHeartbeats 8000000 in
set_option maxRecDepth 100000 in
theorem c_L_sorted_b (l : Launch) (hlf : l.stackTraces = false) (dC : Nat → ClassId) (dI : Nat → Nat → Nat) (g : Nat → ClassId) (tp_p_ hd_p_ : Nat → Nat) (tf_p_ cf_p_ : Nat → Option Nat) (htf_p_ : ∀ j, j < 8 → tf_p_ j = some (tp_p_ j)) (hcf_p_ : ∀ j, j < 8 → cf_p_ j = some (tp_p_ (8 + j))) (a_p_ : Nat → Nat) (t_p_ : Nat) (h_p_ : a_p_ 0 = t_p_) (o_p_ : OS) (a_all n_all : Nat) (all : Nat → Int32) (order : Int32) (Q : Nat → (Nat → Int32) → OS → Prop) (hw : wp_L_sorted_b o_p_ n_all all order Q) (sz : Nat) : Met l yL_sorted wqL_sorted ({ frames := 9, cells := 80803, slots := 485012, locals := 149 }) (va_Pc [.ref t_p_, .ref a_all, .int order] (PG (dC, dI) g ([(a_all, .inl (g 0, n_all, .inl all))] ++ (offS a_p_ tp_p_ hd_p_ tf_p_ cf_p_ g o_p_)) sz)) (va_Qq (fun (r : Option Nat) (u : (Nat → Nat) × OS × Nat × Nat × (Nat → Int32) × Unit) => r = some u.2.2.1 ∧ (Q u.2.2.2.1 u.2.2.2.2.1 u.2.1 ∧ u.1 0 = t_p_)) (fun (u : (Nat → Nat) × OS × Nat × Nat × (Nat → Int32) × Unit) t9 => va_P (dC, dI) vwCl ([(a_all, .inl (g 0, n_all, .inl all)), (u.2.2.1, .inl (g 0, u.2.2.2.1, .inl u.2.2.2.2.1))] ++ (offS u.1 tp_p_ hd_p_ tf_p_ cf_p_ g u.2.1)) t9.heap ∧ va_D (va_A ([(a_all, .inl (g 0, n_all, .inl all))] ++ (offS a_p_ tp_p_ hd_p_ tf_p_ cf_p_ g o_p_)) sz) ([(a_all, .inl (g 0, n_all, .inl all)), (u.2.2.1, .inl (g 0, u.2.2.2.1, .inl u.2.2.2.2.1))] ++ (offS u.1 tp_p_ hd_p_ tf_p_ cf_p_ g u.2.1))) (va_A ([(a_all, .inl (g 0, n_all, .inl all))] ++ (offS a_p_ tp_p_ hd_p_ tf_p_ cf_p_ g o_p_)) sz)) 80803 485012 (va_A ([(a_all, .inl (g 0, n_all, .inl all))] ++ (offS a_p_ tp_p_ hd_p_ tf_p_ cf_p_ g o_p_)) sz) := by
  refine Met.ofW (cc := cL_sorted) (maxL := 6) (ret := (some (.array .int))) (by decide) rfl ?_
  intro p e s m args below meth c s₁ B hml hv
  obtain ⟨rfl, hsz, hP, hK, hD0, hG⟩ := hv
  have hx := B.exec
  have hb := B.bytes
  have hr := B.returns
  have hts := atoms_spec (ws := wqL_sorted) B.pre
  have hown : s.vm.findClass RL = some m.cls := findClass_of_methodNamed B.named
  have hlocks := B.notSynchronized
  subst hsz
  have hD := hD0.self (sz := s.heap.size)
  generalize hAe : va_A ([(a_all, .inl (g 0, n_all, .inl all))] ++ (offS a_p_ tp_p_ hd_p_ tf_p_ cf_p_ g o_p_)) s.heap.size = A at hD hG ⊢
  have hA : ∀ q : Nat, s.heap.size ≤ q → A q := fun q h => by rw [← hAe]; exact Or.inr h
  have hS : va_S A s.heap s.heap [] := va_S.rf
  have hrc : (headSpec wqL_sorted ({ frames := 9, cells := 80803, slots := 485012, locals := 149 })).room.cells = 80803 := rfl
  have hrs : (headSpec wqL_sorted ({ frames := 9, cells := 80803, slots := 485012, locals := 149 })).room.slots = 485012 := rfl
  have hl := lv_entry ([.ref t_p_, .ref a_all, .int order]) (n := 6) (Nat.le_of_ble_eq_true rfl)
  rw [lg_entry_eq]
  generalize (lg_sl ([.ref t_p_, .ref a_all, .int order]) ++ List.replicate (6 - (lg_sl ([.ref t_p_, .ref a_all, .int order])).length) Slot.unset).toArray = ls at hl ⊢
  have hl : lv_has ls 6 [(0, .ref t_p_), (1, .ref a_all), (2, .int order)] := hl
  unfold wp_L_sorted_b at hw
  have hnaint := hts (Cond.arrayClass .int) (aw_l aw_1_57)
  refine lv_aload_n hx hb dL_sorted_0 rfl (lv_at hl 1 rfl) ?_
  refine va_alen hx hb hK hP 0 0 rfl rfl (v := nI n_all) rfl dL_sorted_1 ?_
  obtain ⟨n_4, en_4, ln_4, hw⟩ := hw
  refine va_newa (atype := .int) (a0 := (n_4, .inl (fun _ => 0))) hx hb hnaint rfl hK hP hD hS hA (fun _ => rfl) (by rw [en_4]; exact nI_pos (by omega)) (N' := n_4) (by rw [en_4]; exact nI_clamp (by omega)) (show n_4 * 4 ≤ 536870912 by omega) (by rw [hrc]; omega) (by rw [hrs]; omega) dL_sorted_2 (fun a_q_1 cA_3 H_2 hK9 hP hD hS => ?_)
  obtain rfl : g 0 = cA_3 := K_one hK9 0 5 rfl rfl
  obtain ⟨hP, hD⟩ := seg_join [[(a_all, .inl (g 0, n_all, .inl all))], offS a_p_ tp_p_ hd_p_ tf_p_ cf_p_ g o_p_] [[(a_q_1, .inl (g 0, n_4, .inl (fun _ => 0)))]] [[(a_all, .inl (g 0, n_all, .inl all))], [(a_q_1, .inl (g 0, n_4, .inl (fun _ => 0)))], offS a_p_ tp_p_ hd_p_ tf_p_ cf_p_ g o_p_] 3 [0, 2, 1] rfl rfl (by decide) hP hD
  have hP : va_P (dC, dI) vwCl ([(a_all, .inl (g 0, n_all, .inl all)), (a_q_1, .inl (g 0, n_4, .inl (fun _ => 0)))] ++ (offS a_p_ tp_p_ hd_p_ tf_p_ cf_p_ g o_p_)) H_2 := hP
  have hD : va_D A ([(a_all, .inl (g 0, n_all, .inl all)), (a_q_1, .inl (g 0, n_4, .inl (fun _ => 0)))] ++ (offS a_p_ tp_p_ hd_p_ tf_p_ cf_p_ g o_p_)) := hD
  refine W.widen (k := 1) (n := 200) (by omega) (by omega) ?_
  refine lv_astore_n (lv' := [(3, .ref a_q_1), (0, .ref t_p_), (1, .ref a_all), (2, .int order)]) hx hb dL_sorted_4 rfl hl (by decide) rfl (fun ls hl => ?_)
  refine lv_iconst (v := 0) hx hb dL_sorted_5 (by decide) ?_
  refine lv_istore (lv' := [(4, .int 0), (3, .ref a_q_1), (0, .ref t_p_), (1, .ref a_all), (2, .int order)]) hx hb dL_sorted_6 hl (by decide) rfl (fun ls hl => ?_)
  refine W_abs (fun QM hQM => ?_)
  have EX8_72 : ∀ (q2_9 : Nat → Int32) (o_10 : OS) (ad_11 : Nat → Nat) (had_11 : ad_11 0 = t_p_) (H : Heap) (locs : List Loc), (wx_L_sorted_b_8_72 Q n_4) q2_9 o_10 → va_P (dC, dI) vwCl ([(a_all, .inl (g 0, n_all, .inl all)), (a_q_1, .inl (g 0, n_4, .inl q2_9))] ++ (offS ad_11 tp_p_ hd_p_ tf_p_ cf_p_ g o_10)) H → va_D A ([(a_all, .inl (g 0, n_all, .inl all)), (a_q_1, .inl (g 0, n_4, .inl q2_9))] ++ (offS ad_11 tp_p_ hd_p_ tf_p_ cf_p_ g o_10)) → va_S A s.heap H locs → ∀ (ls : Array Slot), lv_has ls 6 [(3, .ref a_q_1)] → W p l e (headSpec wqL_sorted ({ frames := 9, cells := 80803, slots := 485012, locals := 149 })).room s m ([.ref t_p_, .ref a_all, .int order] : List Value).toArray below meth c H locs 80803 485012 QM (F0 m 72 ls []) := by
    intro q2_9 o_10 ad_11 had_11 H locs hw hP hD hS ls hl
    refine lv_aload_n hx hb dL_sorted_72 rfl (lv_at hl 0 rfl) ?_
    refine W.widen (k := 80803) (n := 485012) (by omega) (by omega) ?_
    subst hQM
    exact W.aret (v := .ref a_q_1) hx hb hr (Or.inr ⟨_, rfl⟩) (Or.inr ⟨_, rfl⟩) (fun t ht hW => ⟨⟨some a_q_1, (ad_11, o_10, a_q_1, n_4, q2_9, ()), rfl, ⟨rfl, ⟨hw, had_11⟩⟩, ⟨P_at ht hP, hD⟩⟩, hS.F ht⟩) hS.2.2 dL_sorted_73
  have LOOP8 : ∀ (n8 : Nat), n8 ≤ 201 → ∀ (v4_5 : Int32) (q2_6 : Nat → Int32) (o_7 : OS) (ad_8 : Nat → Nat) (had_8 : ad_8 0 = t_p_) (H : Heap) (locs : List Loc), wl_L_sorted_b_8 n_all all order n_4 (wx_L_sorted_b_8_72 Q n_4) n8 v4_5 q2_6 o_7 → va_P (dC, dI) vwCl ([(a_all, .inl (g 0, n_all, .inl all)), (a_q_1, .inl (g 0, n_4, .inl q2_6))] ++ (offS ad_8 tp_p_ hd_p_ tf_p_ cf_p_ g o_7)) H → va_D A ([(a_all, .inl (g 0, n_all, .inl all)), (a_q_1, .inl (g 0, n_4, .inl q2_6))] ++ (offS ad_8 tp_p_ hd_p_ tf_p_ cf_p_ g o_7)) → va_S A s.heap H locs → ∀ (ls : Array Slot), lv_has ls 6 [(0, .ref t_p_), (1, .ref a_all), (2, .int order), (3, .ref a_q_1), (4, .int v4_5)] → W p l e (headSpec wqL_sorted ({ frames := 9, cells := 80803, slots := 485012, locals := 149 })).room s m ([.ref t_p_, .ref a_all, .int order] : List Value).toArray below meth c H locs (80803 - n8 * 402) (485012 - n8 * 2412) QM (F0 m 8 ls []) := by
    intro n8
    induction n8 with
    | zero =>
      intro hle_n8
      intro v4_5 q2_6 o_7 ad_8 had_8 H locs hw hP hD hS ls hl
      exact False.elim hw
    | succ n8 ih8 =>
      intro hle_n8
      have ih8 := ih8 (by omega)
      intro v4_5 q2_6 o_7 ad_8 had_8 H locs hw hP hD hS ls hl
      rw [wl_L_sorted_b_8_s] at hw
      obtain ⟨kb8, hkb8⟩ : ∃ x : Nat, x = 80803 - (n8 + 1) * 402 := ⟨_, rfl⟩
      obtain ⟨nb8, hnb8⟩ : ∃ x : Nat, x = 485012 - (n8 + 1) * 2412 := ⟨_, rfl⟩
      refine W.widen (k := kb8) (n := nb8) (by omega) (by omega) ?_
      refine lv_iload hx hb dL_sorted_8 (lv_at hl 4 rfl) ?_
      refine lv_aload_n hx hb dL_sorted_10 rfl (lv_at hl 1 rfl) ?_
      refine va_alen hx hb hK hP 0 0 rfl rfl (v := nI n_all) rfl dL_sorted_11 ?_
      refine lv_icmp_ge (tgt := 72) hx hb dL_sorted_12 (by decide) (fun c_12 => ?_) (fun c_12 => ?_)
      · have hw := hw.1 c_12
        refine W.widen (k := 80803) (n := 485012) (by omega) (by omega) ?_
        exact EX8_72 q2_6 o_7 ad_8 had_8 _ _ hw hP hD hS _ (lv_sub hl [3] rfl)
      · have hw := hw.2 c_12
        refine lv_iload hx hb dL_sorted_15 (lv_at hl 4 rfl) ?_
        refine lv_istore (lv' := [(5, .int v4_5), (0, .ref t_p_), (1, .ref a_all), (2, .int order), (3, .ref a_q_1), (4, .int v4_5)]) hx hb dL_sorted_17 hl (by decide) rfl (fun ls hl => ?_)
        have EX19_58 : ∀ (o_17 : OS) (v5_18 : Int32) (q2_19 : Nat → Int32) (ad_20 : Nat → Nat) (had_20 : ad_20 0 = t_p_) (H : Heap) (locs : List Loc), (wx_L_sorted_b_19_58 n_all all n_4 v4_5 (wl_L_sorted_b_8 n_all all order n_4 (wx_L_sorted_b_8_72 Q n_4) n8)) o_17 v5_18 q2_19 → va_P (dC, dI) vwCl ([(a_all, .inl (g 0, n_all, .inl all)), (a_q_1, .inl (g 0, n_4, .inl q2_19))] ++ (offS ad_20 tp_p_ hd_p_ tf_p_ cf_p_ g o_17)) H → va_D A ([(a_all, .inl (g 0, n_all, .inl all)), (a_q_1, .inl (g 0, n_4, .inl q2_19))] ++ (offS ad_20 tp_p_ hd_p_ tf_p_ cf_p_ g o_17)) → va_S A s.heap H locs → ∀ (ls : Array Slot), lv_has ls 6 [(0, .ref t_p_), (1, .ref a_all), (2, .int order), (3, .ref a_q_1), (4, .int v4_5), (5, .int v5_18)] → W p l e (headSpec wqL_sorted ({ frames := 9, cells := 80803, slots := 485012, locals := 149 })).room s m ([.ref t_p_, .ref a_all, .int order] : List Value).toArray below meth c H locs (kb8 + 402) (nb8 + 2412) QM (F0 m 58 ls []) := by
          intro o_17 v5_18 q2_19 ad_20 had_20 H locs hw hP hD hS ls hl
          refine lv_aload_n hx hb dL_sorted_58 rfl (lv_at hl 3 rfl) ?_
          refine lv_iload hx hb dL_sorted_59 (lv_at hl 5 rfl) ?_
          refine lv_aload_n hx hb dL_sorted_61 rfl (lv_at hl 1 rfl) ?_
          refine lv_iload hx hb dL_sorted_62 (lv_at hl 4 rfl) ?_
          refine va_iald hx hb hK hP 0 0 rfl rfl hw.1 dL_sorted_64 ?_
          have hw := hw.2
          refine lv_topi (fun x_21 ex_21 => ?_)
          have hw := hw x_21 ex_21
          refine va_iast hx hb hK hP hD hS 1 0 rfl rfl hw.1 dL_sorted_65 (fun H_22 L_23 hP hD hS => ?_)
          have hw := hw.2
          have hP : va_P (dC, dI) vwCl ([(a_all, .inl (g 0, n_all, .inl all)), (a_q_1, .inl (g 0, n_4, .inl (upd q2_19 v5_18.toNatClampNeg x_21)))] ++ (offS ad_20 tp_p_ hd_p_ tf_p_ cf_p_ g o_17)) H_22 := hP
          have hD : va_D A ([(a_all, .inl (g 0, n_all, .inl all)), (a_q_1, .inl (g 0, n_4, .inl (upd q2_19 v5_18.toNatClampNeg x_21)))] ++ (offS ad_20 tp_p_ hd_p_ tf_p_ cf_p_ g o_17)) := hD
          obtain ⟨x_24, ex_24⟩ : ∃ y : Int32, y = v4_5 + 1 := ⟨_, rfl⟩
          have hw := hw x_24 ex_24
          refine lv_iinc (v := x_24) (lv' := [(4, .int x_24), (0, .ref t_p_), (1, .ref a_all), (2, .int order), (3, .ref a_q_1), (5, .int v5_18)]) hx hb dL_sorted_66 hl (k := 4) rfl (by rw [ex_24]; rfl) (by decide) rfl (fun ls hl => ?_)
          refine lv_goto (tgt := 8) hx hb dL_sorted_69 (by decide) ?_
          refine W.widen (k := (80803 - n8 * 402)) (n := (485012 - n8 * 2412)) (by omega) (by omega) ?_
          exact ih8 x_24 (upd q2_19 v5_18.toNatClampNeg x_21) o_17 ad_20 had_20 _ _ hw hP hD hS _ (lv_sub hl [1, 2, 3, 4, 0] rfl)
        have LOOP19 : ∀ (n19 : Nat), n19 ≤ 201 → ∀ (o_13 : OS) (v5_14 : Int32) (q2_15 : Nat → Int32) (ad_16 : Nat → Nat) (had_16 : ad_16 0 = t_p_) (H : Heap) (locs : List Loc), wl_L_sorted_b_19 n_all all order n_4 v4_5 (wx_L_sorted_b_19_58 n_all all n_4 v4_5 (wl_L_sorted_b_8 n_all all order n_4 (wx_L_sorted_b_8_72 Q n_4) n8)) n19 o_13 v5_14 q2_15 → va_P (dC, dI) vwCl ([(a_all, .inl (g 0, n_all, .inl all)), (a_q_1, .inl (g 0, n_4, .inl q2_15))] ++ (offS ad_16 tp_p_ hd_p_ tf_p_ cf_p_ g o_13)) H → va_D A ([(a_all, .inl (g 0, n_all, .inl all)), (a_q_1, .inl (g 0, n_4, .inl q2_15))] ++ (offS ad_16 tp_p_ hd_p_ tf_p_ cf_p_ g o_13)) → va_S A s.heap H locs → ∀ (ls : Array Slot), lv_has ls 6 [(0, .ref t_p_), (1, .ref a_all), (2, .int order), (3, .ref a_q_1), (4, .int v4_5), (5, .int v5_14)] → W p l e (headSpec wqL_sorted ({ frames := 9, cells := 80803, slots := 485012, locals := 149 })).room s m ([.ref t_p_, .ref a_all, .int order] : List Value).toArray below meth c H locs ((kb8 + 402) - n19 * 2) ((nb8 + 2412) - n19 * 12) QM (F0 m 19 ls []) := by
          intro n19
          induction n19 with
          | zero =>
            intro hle_n19
            intro o_13 v5_14 q2_15 ad_16 had_16 H locs hw hP hD hS ls hl
            exact False.elim hw
          | succ n19 ih19 =>
            intro hle_n19
            have ih19 := ih19 (by omega)
            intro o_13 v5_14 q2_15 ad_16 had_16 H locs hw hP hD hS ls hl
            rw [wl_L_sorted_b_19_s] at hw
            obtain ⟨kb19, hkb19⟩ : ∃ x : Nat, x = (kb8 + 402) - (n19 + 1) * 2 := ⟨_, rfl⟩
            obtain ⟨nb19, hnb19⟩ : ∃ x : Nat, x = (nb8 + 2412) - (n19 + 1) * 12 := ⟨_, rfl⟩
            refine W.widen (k := kb19) (n := nb19) (by omega) (by omega) ?_
            refine lv_iload hx hb dL_sorted_19 (lv_at hl 5 rfl) ?_
            refine lv_if_le (tgt := 58) hx hb dL_sorted_21 (by decide) (fun c_25 => ?_) (fun c_25 => ?_)
            · have hw := hw.1 c_25
              refine W.widen (k := (kb8 + 402)) (n := (nb8 + 2412)) (by omega) (by omega) ?_
              exact EX19_58 o_13 v5_14 q2_15 ad_16 had_16 _ _ hw hP hD hS _ (lv_sub hl [0, 1, 2, 3, 4, 5] rfl)
            · have hw := hw.2 c_25
              refine lv_aload_n hx hb dL_sorted_24 rfl (lv_at hl 0 rfl) ?_
              refine lv_aload_n hx hb dL_sorted_25 rfl (lv_at hl 1 rfl) ?_
              refine lv_iload hx hb dL_sorted_26 (lv_at hl 4 rfl) ?_
              refine va_iald hx hb hK hP 0 0 rfl rfl hw.1 dL_sorted_28 ?_
              have hw := hw.2
              refine lv_topi (fun x_26 ex_26 => ?_)
              have hw := hw x_26 ex_26
              refine lv_aload_n hx hb dL_sorted_29 rfl (lv_at hl 3 rfl) ?_
              refine lv_iload hx hb dL_sorted_30 (lv_at hl 5 rfl) ?_
              refine lv_iconst (v := 1) hx hb dL_sorted_32 (by decide) ?_
              refine lv_isub hx hb dL_sorted_33 ?_
              refine lv_topi (fun x_27 ex_27 => ?_)
              have hw := hw x_27 ex_27
              refine va_iald hx hb hK hP 1 0 rfl rfl hw.1 dL_sorted_34 ?_
              have hw := hw.2
              refine lv_topi (fun x_28 ex_28 => ?_)
              have hw := hw x_28 ex_28
              refine lv_iload_n hx hb dL_sorted_35 rfl (lv_at hl 2 rfl) ?_
              obtain ⟨hPs, hDs⟩ := seg_call (segs := [[(a_all, .inl (g 0, n_all, .inl all))], [(a_q_1, .inl (g 0, n_4, .inl q2_15))], offS ad_16 tp_p_ hd_p_ tf_p_ cf_p_ g o_13]) [[(a_all, .inl (g 0, n_all, .inl all))], [(a_q_1, .inl (g 0, n_4, .inl q2_15))]] [offS ad_16 tp_p_ hd_p_ tf_p_ cf_p_ g o_13] 3 [0, 1, 2] rfl rfl (by decide) hP hD
              have hPc : va_P (dC, dI) vwCl (offS ad_16 tp_p_ hd_p_ tf_p_ cf_p_ g o_13) H := P_r hPs
              have hDc : va_D A (offS ad_16 tp_p_ hd_p_ tf_p_ cf_p_ g o_13) := D_r hDs
              have hFc : ∀ q, va_A (offS ad_16 tp_p_ hd_p_ tf_p_ cf_p_ g o_13) H.size q → A q := A_all hDc hA hS.1
              refine va_calli (va_runS (As := [.ref t_p_, .int x_26, .int x_28, .int order]) (rest := []) ⟨hx, hb, hml, hown, hts⟩ (c_L_before l hlf dC dI g (tp_p_ := tp_p_) (hd_p_ := hd_p_) (tf_p_ := tf_p_) (cf_p_ := cf_p_) (htf_p_ := htf_p_) (hcf_p_ := hcf_p_) (a_p_ := ad_16) (t_p_ := t_p_) (h_p_ := had_16) (o_p_ := o_13) (one := x_26) (other := x_28) (order := order) (hw := hw) (sz := H.size)) (va_cwS 4 hts (gqS aw_4_18 aw_4_19 aw_1_0 aw_4_20) rfl rfl rfl (by decide +kernel) ⟨Nat.le_of_ble_eq_true rfl, Nat.le_of_ble_eq_true rfl⟩) ⟨PG_blind, PG_call hK hG hS hPc hDc hFc⟩ rfl rfl hl.1 rfl (lv_room (Nat.le_of_ble_eq_true rfl)) dL_sorted_36 ⟨by rw [hrc]; omega, by rw [hrs]; omega⟩) hS (fun q _ h => hFc q h) hFc (fun r_29 u_29 t_29 H_29 L_29 ht_29 hvm_29 hw_29 hB_29 hz_29 hk_29 hS => ?_)
              obtain ⟨ad_30, o_31, u_29⟩ := u_29
              obtain ⟨b_29, rfl, ⟨hw, had_30⟩⟩ := hw_29
              rw [ht_29] at hB_29
              obtain ⟨hP1, hD1⟩ := hB_29
              obtain ⟨hP, hD⟩ := join_r hPs hDs hk_29 hFc hP1 hD1
              obtain ⟨hP, hD⟩ := seg_join [[(a_all, .inl (g 0, n_all, .inl all))], [(a_q_1, .inl (g 0, n_4, .inl q2_15))]] [offS ad_30 tp_p_ hd_p_ tf_p_ cf_p_ g o_31] [[(a_all, .inl (g 0, n_all, .inl all))], [(a_q_1, .inl (g 0, n_4, .inl q2_15))], offS ad_30 tp_p_ hd_p_ tf_p_ cf_p_ g o_31] 3 [0, 1, 2] rfl rfl (by decide) hP hD
              have hP : va_P (dC, dI) vwCl ([(a_all, .inl (g 0, n_all, .inl all)), (a_q_1, .inl (g 0, n_4, .inl q2_15))] ++ (offS ad_30 tp_p_ hd_p_ tf_p_ cf_p_ g o_31)) H_29 := hP
              have hD : va_D A ([(a_all, .inl (g 0, n_all, .inl all)), (a_q_1, .inl (g 0, n_4, .inl q2_15))] ++ (offS ad_30 tp_p_ hd_p_ tf_p_ cf_p_ g o_31)) := hD
              refine W.widen (k := (kb19 + 2)) (n := (nb19 + 12)) (by omega) (by omega) ?_
              refine lv_if_eq (tgt := 58) hx hb dL_sorted_39 (by decide) (fun c_32 => ?_) (fun c_32 => ?_)
              · have hw := hw.1 (b2i_0 c_32)
                refine W.widen (k := (kb8 + 402)) (n := (nb8 + 2412)) (by omega) (by omega) ?_
                exact EX19_58 o_31 v5_14 q2_15 ad_30 had_30 _ _ hw hP hD hS _ (lv_sub hl [0, 1, 2, 3, 4, 5] rfl)
              · have hw := hw.2 (b2i_1 c_32)
                refine lv_aload_n hx hb dL_sorted_42 rfl (lv_at hl 3 rfl) ?_
                refine lv_iload hx hb dL_sorted_43 (lv_at hl 5 rfl) ?_
                refine lv_aload_n hx hb dL_sorted_45 rfl (lv_at hl 3 rfl) ?_
                refine lv_iload hx hb dL_sorted_46 (lv_at hl 5 rfl) ?_
                refine lv_iconst (v := 1) hx hb dL_sorted_48 (by decide) ?_
                refine lv_isub hx hb dL_sorted_49 ?_
                refine lv_topi (fun x_33 ex_33 => ?_)
                have hw := hw x_33 ex_33
                refine va_iald hx hb hK hP 1 0 rfl rfl hw.1 dL_sorted_50 ?_
                have hw := hw.2
                refine lv_topi (fun x_34 ex_34 => ?_)
                have hw := hw x_34 ex_34
                refine va_iast hx hb hK hP hD hS 1 0 rfl rfl hw.1 dL_sorted_51 (fun H_35 L_36 hP hD hS => ?_)
                have hw := hw.2
                have hP : va_P (dC, dI) vwCl ([(a_all, .inl (g 0, n_all, .inl all)), (a_q_1, .inl (g 0, n_4, .inl (upd q2_15 v5_14.toNatClampNeg x_34)))] ++ (offS ad_30 tp_p_ hd_p_ tf_p_ cf_p_ g o_31)) H_35 := hP
                have hD : va_D A ([(a_all, .inl (g 0, n_all, .inl all)), (a_q_1, .inl (g 0, n_4, .inl (upd q2_15 v5_14.toNatClampNeg x_34)))] ++ (offS ad_30 tp_p_ hd_p_ tf_p_ cf_p_ g o_31)) := hD
                obtain ⟨x_37, ex_37⟩ : ∃ y : Int32, y = v5_14 + (-1) := ⟨_, rfl⟩
                have hw := hw x_37 ex_37
                refine lv_iinc (v := x_37) (lv' := [(5, .int x_37), (0, .ref t_p_), (1, .ref a_all), (2, .int order), (3, .ref a_q_1), (4, .int v4_5)]) hx hb dL_sorted_52 hl (k := 5) rfl (by rw [ex_37]; rfl) (by decide) rfl (fun ls hl => ?_)
                refine lv_goto (tgt := 19) hx hb dL_sorted_55 (by decide) ?_
                refine W.widen (k := ((kb8 + 402) - n19 * 2)) (n := ((nb8 + 2412) - n19 * 12)) (by omega) (by omega) ?_
                exact ih19 o_31 x_37 (upd q2_15 v5_14.toNatClampNeg x_34) ad_30 had_30 _ _ hw hP hD hS _ (lv_sub hl [1, 2, 3, 4, 5, 0] rfl)
        obtain ⟨n19, hle19, hw⟩ := hw
        refine W.widen (k := ((kb8 + 402) - n19 * 2)) (n := ((nb8 + 2412) - n19 * 12)) (by omega) (by omega) ?_
        exact LOOP19 n19 hle19 o_7 v4_5 q2_6 ad_8 had_8 _ _ hw hP hD hS _ (lv_sub hl [1, 2, 3, 4, 5, 0] rfl)
  obtain ⟨n8, hle8, hw⟩ := hw
  refine W.widen (k := (80803 - n8 * 402)) (n := (485012 - n8 * 2412)) (by omega) (by omega) ?_
  exact LOOP8 n8 hle8 0 (fun _ => 0) o_p_ a_p_ h_p_ _ _ hw hP hD hS _ (lv_sub hl [2, 3, 4, 1, 0] rfl)
theorem dL_together_0 : decode cL_together 0 = .ok (.aload_n 1, 1) := by decide +kernel
theorem dL_together_1 : decode cL_together 1 = .ok (.arraylength, 1) := by decide +kernel
theorem dL_together_2 : decode cL_together 2 = .ok (.iload_n 3, 1) := by decide +kernel
theorem dL_together_12 : decode cL_together 12 = .ok (.iadd, 1) := by decide +kernel
theorem dL_together_13 : decode cL_together 13 = .ok (.newarray .int, 2) := by decide +kernel
theorem dL_together_15 : decode cL_together 15 = .ok (.astore 4, 2) := by decide +kernel
theorem dL_together_17 : decode cL_together 17 = .ok (.iconst 0, 1) := by decide +kernel
theorem dL_together_18 : decode cL_together 18 = .ok (.istore 5, 2) := by decide +kernel
theorem dL_together_20 : decode cL_together 20 = .ok (.aload_n 1, 1) := by decide +kernel
theorem dL_together_21 : decode cL_together 21 = .ok (.astore 6, 2) := by decide +kernel
theorem dL_together_23 : decode cL_together 23 = .ok (.aload 6, 2) := by decide +kernel
theorem dL_together_25 : decode cL_together 25 = .ok (.arraylength, 1) := by decide +kernel
theorem dL_together_26 : decode cL_together 26 = .ok (.istore 7, 2) := by decide +kernel
theorem dL_together_28 : decode cL_together 28 = .ok (.iconst 0, 1) := by decide +kernel
theorem dL_together_29 : decode cL_together 29 = .ok (.istore 8, 2) := by decide +kernel
theorem dL_together_89 : decode cL_together 89 = .ok (.iload_n 3, 1) := by decide +kernel
theorem dL_together_134 : decode cL_together 134 = .ok (.iload 5, 2) := by decide +kernel
theorem dL_together_136 : decode cL_together 136 = .ok (.newarray .int, 2) := by decide +kernel
theorem dL_together_138 : decode cL_together 138 = .ok (.astore 6, 2) := by decide +kernel
theorem dL_together_140 : decode cL_together 140 = .ok (.iconst 0, 1) := by decide +kernel
theorem dL_together_141 : decode cL_together 141 = .ok (.istore 7, 2) := by decide +kernel
theorem dL_together_166 : decode cL_together 166 = .ok (.aload_n 0, 1) := by decide +kernel
theorem dL_together_167 : decode cL_together 167 = .ok (.aload 6, 2) := by decide +kernel
theorem dL_together_169 : decode cL_together 169 = .ok (.iconst 0, 1) := by decide +kernel
theorem dL_together_170 : decode cL_together 170 = .ok (.invokestatic 132, 3) := by decide +kernel
theorem dL_together_173 : decode cL_together 173 = .ok (.areturn, 1) := by decide +kernel
theorem dL_together_143 : decode cL_together 143 = .ok (.iload 7, 2) := by decide +kernel
theorem dL_together_145 : decode cL_together 145 = .ok (.iload 5, 2) := by decide +kernel
theorem dL_together_147 : decode cL_together 147 = .ok (.if_icmp .ge 19, 3) := by decide +kernel
theorem dL_together_150 : decode cL_together 150 = .ok (.aload 6, 2) := by decide +kernel
theorem dL_together_152 : decode cL_together 152 = .ok (.iload 7, 2) := by decide +kernel
theorem dL_together_154 : decode cL_together 154 = .ok (.aload 4, 2) := by decide +kernel
theorem dL_together_156 : decode cL_together 156 = .ok (.iload 7, 2) := by decide +kernel
theorem dL_together_158 : decode cL_together 158 = .ok (.iaload, 1) := by decide +kernel
theorem dL_together_159 : decode cL_together 159 = .ok (.iastore, 1) := by decide +kernel
theorem dL_together_160 : decode cL_together 160 = .ok (.iinc 7 1, 3) := by decide +kernel
theorem dL_together_163 : decode cL_together 163 = .ok (.goto (-20), 3) := by decide +kernel
theorem dL_together_90 : decode cL_together 90 = .ok (.ifCond .ne 44, 3) := by decide +kernel
theorem dL_together_93 : decode cL_together 93 = .ok (.aload_n 2, 1) := by decide +kernel
theorem dL_together_94 : decode cL_together 94 = .ok (.astore 6, 2) := by decide +kernel
theorem dL_together_96 : decode cL_together 96 = .ok (.aload 6, 2) := by decide +kernel
theorem dL_together_98 : decode cL_together 98 = .ok (.arraylength, 1) := by decide +kernel
theorem dL_together_99 : decode cL_together 99 = .ok (.istore 7, 2) := by decide +kernel
theorem dL_together_101 : decode cL_together 101 = .ok (.iconst 0, 1) := by decide +kernel
theorem dL_together_102 : decode cL_together 102 = .ok (.istore 8, 2) := by decide +kernel
theorem dL_together_104 : decode cL_together 104 = .ok (.iload 8, 2) := by decide +kernel
theorem dL_together_106 : decode cL_together 106 = .ok (.iload 7, 2) := by decide +kernel
theorem dL_together_108 : decode cL_together 108 = .ok (.if_icmp .ge 26, 3) := by decide +kernel
theorem dL_together_111 : decode cL_together 111 = .ok (.aload 6, 2) := by decide +kernel
theorem dL_together_113 : decode cL_together 113 = .ok (.iload 8, 2) := by decide +kernel
theorem dL_together_115 : decode cL_together 115 = .ok (.iaload, 1) := by decide +kernel
theorem dL_together_116 : decode cL_together 116 = .ok (.istore 9, 2) := by decide +kernel
theorem dL_together_118 : decode cL_together 118 = .ok (.aload 4, 2) := by decide +kernel
theorem dL_together_120 : decode cL_together 120 = .ok (.iload 5, 2) := by decide +kernel
theorem dL_together_122 : decode cL_together 122 = .ok (.iinc 5 1, 3) := by decide +kernel
theorem dL_together_125 : decode cL_together 125 = .ok (.iload 9, 2) := by decide +kernel
theorem dL_together_127 : decode cL_together 127 = .ok (.iastore, 1) := by decide +kernel
theorem dL_together_128 : decode cL_together 128 = .ok (.iinc 8 1, 3) := by decide +kernel
theorem dL_together_131 : decode cL_together 131 = .ok (.goto (-27), 3) := by decide +kernel
theorem dL_together_31 : decode cL_together 31 = .ok (.iload 8, 2) := by decide +kernel
theorem dL_together_33 : decode cL_together 33 = .ok (.iload 7, 2) := by decide +kernel
theorem dL_together_35 : decode cL_together 35 = .ok (.if_icmp .ge 54, 3) := by decide +kernel
theorem dL_together_38 : decode cL_together 38 = .ok (.aload 6, 2) := by decide +kernel
theorem dL_together_40 : decode cL_together 40 = .ok (.iload 8, 2) := by decide +kernel
theorem dL_together_42 : decode cL_together 42 = .ok (.iaload, 1) := by decide +kernel
theorem dL_together_43 : decode cL_together 43 = .ok (.istore 9, 2) := by decide +kernel
theorem dL_together_45 : decode cL_together 45 = .ok (.iload_n 3, 1) := by decide +kernel
theorem dL_together_73 : decode cL_together 73 = .ok (.aload 4, 2) := by decide +kernel
theorem dL_together_75 : decode cL_together 75 = .ok (.iload 5, 2) := by decide +kernel
theorem dL_together_77 : decode cL_together 77 = .ok (.iinc 5 1, 3) := by decide +kernel
theorem dL_together_80 : decode cL_together 80 = .ok (.iload 9, 2) := by decide +kernel
theorem dL_together_82 : decode cL_together 82 = .ok (.iastore, 1) := by decide +kernel
theorem dL_together_83 : decode cL_together 83 = .ok (.iinc 8 1, 3) := by decide +kernel
theorem dL_together_86 : decode cL_together 86 = .ok (.goto (-55), 3) := by decide +kernel
theorem dL_together_46 : decode cL_together 46 = .ok (.ifCond .eq 27, 3) := by decide +kernel
theorem dL_together_49 : decode cL_together 49 = .ok (.aload_n 0, 1) := by decide +kernel
theorem dL_together_50 : decode cL_together 50 = .ok (.aload_n 2, 1) := by decide +kernel
theorem dL_together_51 : decode cL_together 51 = .ok (.aload_n 0, 1) := by decide +kernel
theorem dL_together_52 : decode cL_together 52 = .ok (.iload 9, 2) := by decide +kernel
theorem dL_together_54 : decode cL_together 54 = .ok (.invokevirtual 93, 3) := by decide +kernel
theorem dL_together_57 : decode cL_together 57 = .ok (.invokestatic 180, 3) := by decide +kernel
theorem dL_together_60 : decode cL_together 60 = .ok (.iload_n 3, 1) := by decide +kernel
theorem dL_together_61 : decode cL_together 61 = .ok (.iconst 1, 1) := by decide +kernel
theorem dL_together_70 : decode cL_together 70 = .ok (.if_icmp .ne 13, 3) := by decide +kernel
theorem dL_together_62 : decode cL_together 62 = .ok (.if_icmp .ne 7, 3) := by decide +kernel
theorem dL_together_69 : decode cL_together 69 = .ok (.iconst 0, 1) := by decide +kernel
theorem dL_together_65 : decode cL_together 65 = .ok (.iconst 1, 1) := by decide +kernel
theorem dL_together_66 : decode cL_together 66 = .ok (.goto 4, 3) := by decide +kernel
theorem dL_together_3 : decode cL_together 3 = .ok (.ifCond .ne 8, 3) := by decide +kernel
theorem dL_together_11 : decode cL_together 11 = .ok (.iconst 0, 1) := by decide +kernel
theorem dL_together_6 : decode cL_together 6 = .ok (.aload_n 2, 1) := by decide +kernel
theorem dL_together_7 : decode cL_together 7 = .ok (.arraylength, 1) := by decide +kernel
theorem dL_together_8 : decode cL_together 8 = .ok (.goto 4, 3) := by decide +kernel

set_option maxHeartbeats 8000000 in
set_option maxRecDepth 100000 in
theorem c_L_together (l : Launch) (hlf : l.stackTraces = false) (dC : Nat → ClassId) (dI : Nat → Nat → Nat) (g : Nat → ClassId) (tp_p_ hd_p_ : Nat → Nat) (tf_p_ cf_p_ : Nat → Option Nat) (htf_p_ : ∀ j, j < 8 → tf_p_ j = some (tp_p_ j)) (hcf_p_ : ∀ j, j < 8 → cf_p_ j = some (tp_p_ (8 + j))) (a_p_ : Nat → Nat) (t_p_ : Nat) (h_p_ : a_p_ 0 = t_p_) (o_p_ : OS) (a_a_ n_a_ : Nat) (a_ : Nat → Int32) (a_b_ n_b_ : Nat) (b_ : Nat → Int32) (how : Int32) (Q : Nat → (Nat → Int32) → OS → Prop) (hw : wp_L_together o_p_ n_a_ a_ n_b_ b_ how Q) (sz : Nat) : Met l yL_together wqL_together ({ frames := 10, cells := 91107, slots := 547224, locals := 174 }) (va_Pc [.ref t_p_, .ref a_a_, .ref a_b_, .int how] (PG (dC, dI) g ([(a_a_, .inl (g 0, n_a_, .inl a_)), (a_b_, .inl (g 0, n_b_, .inl b_))] ++ (offS a_p_ tp_p_ hd_p_ tf_p_ cf_p_ g o_p_)) sz)) (va_Qq (fun (r : Option Nat) (u : (Nat → Nat) × OS × Nat × Nat × (Nat → Int32) × Unit) => r = some u.2.2.1 ∧ (Q u.2.2.2.1 u.2.2.2.2.1 u.2.1 ∧ u.1 0 = t_p_)) (fun (u : (Nat → Nat) × OS × Nat × Nat × (Nat → Int32) × Unit) t9 => va_P (dC, dI) vwCl ([(a_a_, .inl (g 0, n_a_, .inl a_)), (a_b_, .inl (g 0, n_b_, .inl b_)), (u.2.2.1, .inl (g 0, u.2.2.2.1, .inl u.2.2.2.2.1))] ++ (offS u.1 tp_p_ hd_p_ tf_p_ cf_p_ g u.2.1)) t9.heap ∧ va_D (va_A ([(a_a_, .inl (g 0, n_a_, .inl a_)), (a_b_, .inl (g 0, n_b_, .inl b_))] ++ (offS a_p_ tp_p_ hd_p_ tf_p_ cf_p_ g o_p_)) sz) ([(a_a_, .inl (g 0, n_a_, .inl a_)), (a_b_, .inl (g 0, n_b_, .inl b_)), (u.2.2.1, .inl (g 0, u.2.2.2.1, .inl u.2.2.2.2.1))] ++ (offS u.1 tp_p_ hd_p_ tf_p_ cf_p_ g u.2.1))) (va_A ([(a_a_, .inl (g 0, n_a_, .inl a_)), (a_b_, .inl (g 0, n_b_, .inl b_))] ++ (offS a_p_ tp_p_ hd_p_ tf_p_ cf_p_ g o_p_)) sz)) 91107 547224 (va_A ([(a_a_, .inl (g 0, n_a_, .inl a_)), (a_b_, .inl (g 0, n_b_, .inl b_))] ++ (offS a_p_ tp_p_ hd_p_ tf_p_ cf_p_ g o_p_)) sz) := by
  refine Met.ofW (cc := cL_together) (maxL := 10) (ret := (some (.array .int))) (by decide) rfl ?_
  intro p e s m args below meth c s₁ B hml hv
  obtain ⟨rfl, hsz, hP, hK, hD0, hG⟩ := hv
  have hx := B.exec
  have hb := B.bytes
  have hr := B.returns
  have hts := atoms_spec (ws := wqL_together) B.pre
  have hown : s.vm.findClass RL = some m.cls := findClass_of_methodNamed B.named
  have hlocks := B.notSynchronized
  subst hsz
  have hD := hD0.self (sz := s.heap.size)
  generalize hAe : va_A ([(a_a_, .inl (g 0, n_a_, .inl a_)), (a_b_, .inl (g 0, n_b_, .inl b_))] ++ (offS a_p_ tp_p_ hd_p_ tf_p_ cf_p_ g o_p_)) s.heap.size = A at hD hG ⊢
  have hA : ∀ q : Nat, s.heap.size ≤ q → A q := fun q h => by rw [← hAe]; exact Or.inr h
  have hS : va_S A s.heap s.heap [] := va_S.rf
  have hrc : (headSpec wqL_together ({ frames := 10, cells := 91107, slots := 547224, locals := 174 })).room.cells = 91107 := rfl
  have hrs : (headSpec wqL_together ({ frames := 10, cells := 91107, slots := 547224, locals := 174 })).room.slots = 547224 := rfl
  have hl := lv_entry ([.ref t_p_, .ref a_a_, .ref a_b_, .int how]) (n := 10) (Nat.le_of_ble_eq_true rfl)
  rw [lg_entry_eq]
  generalize (lg_sl ([.ref t_p_, .ref a_a_, .ref a_b_, .int how]) ++ List.replicate (10 - (lg_sl ([.ref t_p_, .ref a_a_, .ref a_b_, .int how])).length) Slot.unset).toArray = ls at hl ⊢
  have hl : lv_has ls 10 [(0, .ref t_p_), (1, .ref a_a_), (2, .ref a_b_), (3, .int how)] := hl
  unfold wp_L_together at hw
  have hnaint := hts (Cond.arrayClass .int) (aw_l aw_1_57)
  refine lv_aload_n hx hb dL_together_0 rfl (lv_at hl 1 rfl) ?_
  refine va_alen hx hb hK hP 0 0 rfl rfl (v := nI n_a_) rfl dL_together_1 ?_
  refine lv_iload_n hx hb dL_together_2 rfl (lv_at hl 3 rfl) ?_
  refine W_abs (fun QM hQM => ?_)
  have JN12 : ∀ (sk0_1 : Int32) (H : Heap) (locs : List Loc), (wj_L_together_12 o_p_ n_a_ a_ n_b_ b_ how Q) sk0_1 → va_P (dC, dI) vwCl ([(a_a_, .inl (g 0, n_a_, .inl a_)), (a_b_, .inl (g 0, n_b_, .inl b_))] ++ (offS a_p_ tp_p_ hd_p_ tf_p_ cf_p_ g o_p_)) H → va_D A ([(a_a_, .inl (g 0, n_a_, .inl a_)), (a_b_, .inl (g 0, n_b_, .inl b_))] ++ (offS a_p_ tp_p_ hd_p_ tf_p_ cf_p_ g o_p_)) → va_S A s.heap H locs → ∀ (ls : Array Slot), lv_has ls 10 [(0, .ref t_p_), (1, .ref a_a_), (2, .ref a_b_), (3, .int how)] → W p l e (headSpec wqL_together ({ frames := 10, cells := 91107, slots := 547224, locals := 174 })).room s m ([.ref t_p_, .ref a_a_, .ref a_b_, .int how] : List Value).toArray below meth c H locs 0 0 QM (F0 m 12 ls [.int sk0_1, .int (nI n_a_)]) := by
    intro sk0_1 H locs hw hP hD hS ls hl
    refine lv_iadd hx hb dL_together_12 ?_
    refine lv_topi (fun x_2 ex_2 => ?_)
    have hw := hw x_2 ex_2
    obtain ⟨n_6, en_6, ln_6, hw⟩ := hw
    refine va_newa (atype := .int) (a0 := (n_6, .inl (fun _ => 0))) hx hb hnaint rfl hK hP hD hS hA (fun _ => rfl) (by rw [en_6]; exact nI_pos (by omega)) (N' := n_6) (by rw [en_6]; exact nI_clamp (by omega)) (show n_6 * 4 ≤ 536870912 by omega) (by rw [hrc]; omega) (by rw [hrs]; omega) dL_together_13 (fun a_q_3 cA_5 H_4 hK9 hP hD hS => ?_)
    obtain rfl : g 0 = cA_5 := K_one hK9 0 5 rfl rfl
    obtain ⟨hP, hD⟩ := seg_join [[(a_a_, .inl (g 0, n_a_, .inl a_))], [(a_b_, .inl (g 0, n_b_, .inl b_))], offS a_p_ tp_p_ hd_p_ tf_p_ cf_p_ g o_p_] [[(a_q_3, .inl (g 0, n_6, .inl (fun _ => 0)))]] [[(a_a_, .inl (g 0, n_a_, .inl a_))], [(a_b_, .inl (g 0, n_b_, .inl b_))], [(a_q_3, .inl (g 0, n_6, .inl (fun _ => 0)))], offS a_p_ tp_p_ hd_p_ tf_p_ cf_p_ g o_p_] 4 [0, 1, 3, 2] rfl rfl (by decide) hP hD
    have hP : va_P (dC, dI) vwCl ([(a_a_, .inl (g 0, n_a_, .inl a_)), (a_b_, .inl (g 0, n_b_, .inl b_)), (a_q_3, .inl (g 0, n_6, .inl (fun _ => 0)))] ++ (offS a_p_ tp_p_ hd_p_ tf_p_ cf_p_ g o_p_)) H_4 := hP
    have hD : va_D A ([(a_a_, .inl (g 0, n_a_, .inl a_)), (a_b_, .inl (g 0, n_b_, .inl b_)), (a_q_3, .inl (g 0, n_6, .inl (fun _ => 0)))] ++ (offS a_p_ tp_p_ hd_p_ tf_p_ cf_p_ g o_p_)) := hD
    refine W.widen (k := 1) (n := 200) (by omega) (by omega) ?_
    refine lv_astore (lv' := [(4, .ref a_q_3), (0, .ref t_p_), (1, .ref a_a_), (2, .ref a_b_), (3, .int how)]) hx hb dL_together_15 hl (by decide) rfl (fun ls hl => ?_)
    refine lv_iconst (v := 0) hx hb dL_together_17 (by decide) ?_
    refine lv_istore (lv' := [(5, .int 0), (4, .ref a_q_3), (0, .ref t_p_), (1, .ref a_a_), (2, .ref a_b_), (3, .int how)]) hx hb dL_together_18 hl (by decide) rfl (fun ls hl => ?_)
    refine lv_aload_n hx hb dL_together_20 rfl (lv_at hl 3 rfl) ?_
    refine lv_astore (lv' := [(6, .ref a_a_), (5, .int 0), (4, .ref a_q_3), (0, .ref t_p_), (1, .ref a_a_), (2, .ref a_b_), (3, .int how)]) hx hb dL_together_21 hl (by decide) rfl (fun ls hl => ?_)
    refine lv_aload hx hb dL_together_23 (lv_at hl 0 rfl) ?_
    refine va_alen hx hb hK hP 0 0 rfl rfl (v := nI n_a_) rfl dL_together_25 ?_
    refine lv_istore (lv' := [(7, .int (nI n_a_)), (6, .ref a_a_), (5, .int 0), (4, .ref a_q_3), (0, .ref t_p_), (1, .ref a_a_), (2, .ref a_b_), (3, .int how)]) hx hb dL_together_26 hl (by decide) rfl (fun ls hl => ?_)
    refine lv_iconst (v := 0) hx hb dL_together_28 (by decide) ?_
    refine lv_istore (lv' := [(8, .int 0), (7, .int (nI n_a_)), (6, .ref a_a_), (5, .int 0), (4, .ref a_q_3), (0, .ref t_p_), (1, .ref a_a_), (2, .ref a_b_), (3, .int how)]) hx hb dL_together_29 hl (by decide) rfl (fun ls hl => ?_)
    have EX31_89 : ∀ (v5_12 : Int32) (q13_13 : Nat → Int32) (o_14 : OS) (ad_15 : Nat → Nat) (had_15 : ad_15 0 = t_p_) (H : Heap) (locs : List Loc), (wx_L_together_31_89 n_b_ b_ how Q n_6) v5_12 q13_13 o_14 → va_P (dC, dI) vwCl ([(a_a_, .inl (g 0, n_a_, .inl a_)), (a_b_, .inl (g 0, n_b_, .inl b_)), (a_q_3, .inl (g 0, n_6, .inl q13_13))] ++ (offS ad_15 tp_p_ hd_p_ tf_p_ cf_p_ g o_14)) H → va_D A ([(a_a_, .inl (g 0, n_a_, .inl a_)), (a_b_, .inl (g 0, n_b_, .inl b_)), (a_q_3, .inl (g 0, n_6, .inl q13_13))] ++ (offS ad_15 tp_p_ hd_p_ tf_p_ cf_p_ g o_14)) → va_S A s.heap H locs → ∀ (ls : Array Slot), lv_has ls 10 [(0, .ref t_p_), (2, .ref a_b_), (3, .int how), (4, .ref a_q_3), (5, .int v5_12)] → W p l e (headSpec wqL_together ({ frames := 10, cells := 91107, slots := 547224, locals := 174 })).room s m ([.ref t_p_, .ref a_a_, .ref a_b_, .int how] : List Value).toArray below meth c H locs 10303 62012 QM (F0 m 89 ls []) := by
      intro v5_12 q13_13 o_14 ad_15 had_15 H locs hw hP hD hS ls hl
      refine lv_iload_n hx hb dL_together_89 rfl (lv_at hl 2 rfl) ?_
      have JN134 : ∀ (v5_16 : Int32) (q13_17 : Nat → Int32) (H : Heap) (locs : List Loc), (wj_L_together_134 Q n_6 o_14) v5_16 q13_17 → va_P (dC, dI) vwCl ([(a_a_, .inl (g 0, n_a_, .inl a_)), (a_b_, .inl (g 0, n_b_, .inl b_)), (a_q_3, .inl (g 0, n_6, .inl q13_17))] ++ (offS ad_15 tp_p_ hd_p_ tf_p_ cf_p_ g o_14)) H → va_D A ([(a_a_, .inl (g 0, n_a_, .inl a_)), (a_b_, .inl (g 0, n_b_, .inl b_)), (a_q_3, .inl (g 0, n_6, .inl q13_17))] ++ (offS ad_15 tp_p_ hd_p_ tf_p_ cf_p_ g o_14)) → va_S A s.heap H locs → ∀ (ls : Array Slot), lv_has ls 10 [(0, .ref t_p_), (4, .ref a_q_3), (5, .int v5_16)] → W p l e (headSpec wqL_together ({ frames := 10, cells := 91107, slots := 547224, locals := 174 })).room s m ([.ref t_p_, .ref a_a_, .ref a_b_, .int how] : List Value).toArray below meth c H locs 10303 62012 QM (F0 m 134 ls []) := by
        intro v5_16 q13_17 H locs hw hP hD hS ls hl
        refine lv_iload hx hb dL_together_134 (lv_at hl 2 rfl) ?_
        obtain ⟨n_21, en_21, ln_21, hw⟩ := hw
        refine va_newa (atype := .int) (a0 := (n_21, .inl (fun _ => 0))) hx hb hnaint rfl hK hP hD hS hA (fun _ => rfl) (by rw [en_21]; exact nI_pos (by omega)) (N' := n_21) (by rw [en_21]; exact nI_clamp (by omega)) (show n_21 * 4 ≤ 536870912 by omega) (by rw [hrc]; omega) (by rw [hrs]; omega) dL_together_136 (fun a_q_18 cA_20 H_19 hK9 hP hD hS => ?_)
        obtain rfl : g 0 = cA_20 := K_one hK9 0 5 rfl rfl
        obtain ⟨hP, hD⟩ := seg_join [[(a_a_, .inl (g 0, n_a_, .inl a_))], [(a_b_, .inl (g 0, n_b_, .inl b_))], [(a_q_3, .inl (g 0, n_6, .inl q13_17))], offS ad_15 tp_p_ hd_p_ tf_p_ cf_p_ g o_14] [[(a_q_18, .inl (g 0, n_21, .inl (fun _ => 0)))]] [[(a_a_, .inl (g 0, n_a_, .inl a_))], [(a_b_, .inl (g 0, n_b_, .inl b_))], [(a_q_3, .inl (g 0, n_6, .inl q13_17))], [(a_q_18, .inl (g 0, n_21, .inl (fun _ => 0)))], offS ad_15 tp_p_ hd_p_ tf_p_ cf_p_ g o_14] 5 [0, 1, 2, 4, 3] rfl rfl (by decide) hP hD
        have hP : va_P (dC, dI) vwCl ([(a_a_, .inl (g 0, n_a_, .inl a_)), (a_b_, .inl (g 0, n_b_, .inl b_)), (a_q_3, .inl (g 0, n_6, .inl q13_17)), (a_q_18, .inl (g 0, n_21, .inl (fun _ => 0)))] ++ (offS ad_15 tp_p_ hd_p_ tf_p_ cf_p_ g o_14)) H_19 := hP
        have hD : va_D A ([(a_a_, .inl (g 0, n_a_, .inl a_)), (a_b_, .inl (g 0, n_b_, .inl b_)), (a_q_3, .inl (g 0, n_6, .inl q13_17)), (a_q_18, .inl (g 0, n_21, .inl (fun _ => 0)))] ++ (offS ad_15 tp_p_ hd_p_ tf_p_ cf_p_ g o_14)) := hD
        refine W.widen (k := 10304) (n := 62212) (by omega) (by omega) ?_
        refine lv_astore (lv' := [(6, .ref a_q_18), (0, .ref t_p_), (4, .ref a_q_3), (5, .int v5_16)]) hx hb dL_together_138 hl (by decide) rfl (fun ls hl => ?_)
        refine lv_iconst (v := 0) hx hb dL_together_140 (by decide) ?_
        refine lv_istore (lv' := [(7, .int 0), (6, .ref a_q_18), (0, .ref t_p_), (4, .ref a_q_3), (5, .int v5_16)]) hx hb dL_together_141 hl (by decide) rfl (fun ls hl => ?_)
        have EX143_166 : ∀ (q136_24 : Nat → Int32) (H : Heap) (locs : List Loc), (wx_L_together_143_166 Q o_14 n_21) q136_24 → va_P (dC, dI) vwCl ([(a_a_, .inl (g 0, n_a_, .inl a_)), (a_b_, .inl (g 0, n_b_, .inl b_)), (a_q_18, .inl (g 0, n_21, .inl q136_24))] ++ (offS ad_15 tp_p_ hd_p_ tf_p_ cf_p_ g o_14)) H → va_D A ([(a_a_, .inl (g 0, n_a_, .inl a_)), (a_b_, .inl (g 0, n_b_, .inl b_)), (a_q_18, .inl (g 0, n_21, .inl q136_24))] ++ (offS ad_15 tp_p_ hd_p_ tf_p_ cf_p_ g o_14)) → va_S A s.heap H locs → ∀ (ls : Array Slot), lv_has ls 10 [(0, .ref t_p_), (6, .ref a_q_18)] → W p l e (headSpec wqL_together ({ frames := 10, cells := 91107, slots := 547224, locals := 174 })).room s m ([.ref t_p_, .ref a_a_, .ref a_b_, .int how] : List Value).toArray below meth c H locs 10304 62212 QM (F0 m 166 ls []) := by
          intro q136_24 H locs hw hP hD hS ls hl
          refine lv_aload_n hx hb dL_together_166 rfl (lv_at hl 0 rfl) ?_
          refine lv_aload hx hb dL_together_167 (lv_at hl 1 rfl) ?_
          refine lv_iconst (v := 0) hx hb dL_together_169 (by decide) ?_
          obtain ⟨hPs, hDs⟩ := seg_call (segs := [[(a_a_, .inl (g 0, n_a_, .inl a_))], [(a_b_, .inl (g 0, n_b_, .inl b_))], [(a_q_18, .inl (g 0, n_21, .inl q136_24))], offS ad_15 tp_p_ hd_p_ tf_p_ cf_p_ g o_14]) [[(a_a_, .inl (g 0, n_a_, .inl a_))], [(a_b_, .inl (g 0, n_b_, .inl b_))]] [[(a_q_18, .inl (g 0, n_21, .inl q136_24))], offS ad_15 tp_p_ hd_p_ tf_p_ cf_p_ g o_14] 4 [0, 1, 2, 3] rfl rfl (by decide) hP hD
          have hPc : va_P (dC, dI) vwCl ([(a_q_18, .inl (g 0, n_21, .inl q136_24))] ++ (offS ad_15 tp_p_ hd_p_ tf_p_ cf_p_ g o_14)) H := P_r hPs
          have hDc : va_D A ([(a_q_18, .inl (g 0, n_21, .inl q136_24))] ++ (offS ad_15 tp_p_ hd_p_ tf_p_ cf_p_ g o_14)) := D_r hDs
          have hFc : ∀ q, va_A ([(a_q_18, .inl (g 0, n_21, .inl q136_24))] ++ (offS ad_15 tp_p_ hd_p_ tf_p_ cf_p_ g o_14)) H.size q → A q := A_all hDc hA hS.1
          refine va_callq (va_runS (As := [.ref t_p_, .ref a_q_18, .int 0]) (rest := []) ⟨hx, hb, hml, hown, hts⟩ (c_L_sorted_b l hlf dC dI g (tp_p_ := tp_p_) (hd_p_ := hd_p_) (tf_p_ := tf_p_) (cf_p_ := cf_p_) (htf_p_ := htf_p_) (hcf_p_ := hcf_p_) (a_p_ := ad_15) (t_p_ := t_p_) (h_p_ := had_15) (o_p_ := o_14) (a_all := a_q_18) (n_all := n_21) (all := q136_24) (order := 0) (hw := hw) (sz := H.size)) (va_cwS 3 hts (gqS aw_4_39 aw_4_40 aw_1_0 aw_4_41) rfl rfl rfl (by decide +kernel) ⟨Nat.le_of_ble_eq_true rfl, Nat.le_of_ble_eq_true rfl⟩) ⟨PG_blind, PG_call hK hG hS hPc hDc hFc⟩ rfl rfl hl.1 rfl (lv_room (Nat.le_of_ble_eq_true rfl)) dL_together_170 ⟨by rw [hrc]; omega, by rw [hrs]; omega⟩) hS (fun q _ h => hFc q h) hFc (fun r_25 u_25 t_25 H_25 L_25 ht_25 hvm_25 hw_25 hB_25 hz_25 hk_25 hS => ?_)
          obtain ⟨ad_26, o_27, a_q_28, n_29, q_30, u_25⟩ := u_25
          obtain ⟨rfl, ⟨hw, had_26⟩⟩ := hw_25
          rw [ht_25] at hB_25
          obtain ⟨hP1, hD1⟩ := hB_25
          obtain ⟨hP, hD⟩ := join_r hPs hDs hk_25 hFc hP1 hD1
          obtain ⟨hP, hD⟩ := seg_join [[(a_a_, .inl (g 0, n_a_, .inl a_))], [(a_b_, .inl (g 0, n_b_, .inl b_))]] [[(a_q_18, .inl (g 0, n_21, .inl q136_24))], [(a_q_28, .inl (g 0, n_29, .inl q_30))], offS ad_26 tp_p_ hd_p_ tf_p_ cf_p_ g o_27] [[(a_a_, .inl (g 0, n_a_, .inl a_))], [(a_b_, .inl (g 0, n_b_, .inl b_))], [(a_q_18, .inl (g 0, n_21, .inl q136_24))], [(a_q_28, .inl (g 0, n_29, .inl q_30))], offS ad_26 tp_p_ hd_p_ tf_p_ cf_p_ g o_27] 5 [0, 1, 2, 3, 4] rfl rfl (by decide) hP hD
          have hP : va_P (dC, dI) vwCl ([(a_a_, .inl (g 0, n_a_, .inl a_)), (a_b_, .inl (g 0, n_b_, .inl b_)), (a_q_18, .inl (g 0, n_21, .inl q136_24)), (a_q_28, .inl (g 0, n_29, .inl q_30))] ++ (offS ad_26 tp_p_ hd_p_ tf_p_ cf_p_ g o_27)) H_25 := hP
          have hD : va_D A ([(a_a_, .inl (g 0, n_a_, .inl a_)), (a_b_, .inl (g 0, n_b_, .inl b_)), (a_q_18, .inl (g 0, n_21, .inl q136_24)), (a_q_28, .inl (g 0, n_29, .inl q_30))] ++ (offS ad_26 tp_p_ hd_p_ tf_p_ cf_p_ g o_27)) := hD
          refine W.widen (k := 91107) (n := 547224) (by omega) (by omega) ?_
          refine W.widen (k := 91107) (n := 547224) (by omega) (by omega) ?_
          subst hQM
          obtain ⟨hP, hD⟩ := seg_sub (segs := [[(a_a_, .inl (g 0, n_a_, .inl a_))], [(a_b_, .inl (g 0, n_b_, .inl b_))], [(a_q_18, .inl (g 0, n_21, .inl q136_24))], [(a_q_28, .inl (g 0, n_29, .inl q_30))], offS ad_26 tp_p_ hd_p_ tf_p_ cf_p_ g o_27]) [[(a_a_, .inl (g 0, n_a_, .inl a_))], [(a_b_, .inl (g 0, n_b_, .inl b_))], [(a_q_28, .inl (g 0, n_29, .inl q_30))], offS ad_26 tp_p_ hd_p_ tf_p_ cf_p_ g o_27] [[(a_q_18, .inl (g 0, n_21, .inl q136_24))]] 5 [0, 1, 3, 4, 2] rfl rfl (by decide) hP hD
          exact W.aret (v := .ref a_q_28) hx hb hr (Or.inr ⟨_, rfl⟩) (Or.inr ⟨_, rfl⟩) (fun t ht hW => ⟨⟨some a_q_28, (ad_26, o_27, a_q_28, n_29, q_30, ()), rfl, ⟨rfl, ⟨hw, had_26⟩⟩, ⟨P_at ht hP, hD⟩⟩, hS.F ht⟩) hS.2.2 dL_together_173
        have LOOP143 : ∀ (n143 : Nat) (v7_22 : Int32) (q136_23 : Nat → Int32) (H : Heap) (locs : List Loc), wl_L_together_143 n_6 v5_16 q13_17 n_21 (wx_L_together_143_166 Q o_14 n_21) n143 v7_22 q136_23 → va_P (dC, dI) vwCl ([(a_a_, .inl (g 0, n_a_, .inl a_)), (a_b_, .inl (g 0, n_b_, .inl b_)), (a_q_3, .inl (g 0, n_6, .inl q13_17)), (a_q_18, .inl (g 0, n_21, .inl q136_23))] ++ (offS ad_15 tp_p_ hd_p_ tf_p_ cf_p_ g o_14)) H → va_D A ([(a_a_, .inl (g 0, n_a_, .inl a_)), (a_b_, .inl (g 0, n_b_, .inl b_)), (a_q_3, .inl (g 0, n_6, .inl q13_17)), (a_q_18, .inl (g 0, n_21, .inl q136_23))] ++ (offS ad_15 tp_p_ hd_p_ tf_p_ cf_p_ g o_14)) → va_S A s.heap H locs → ∀ (ls : Array Slot), lv_has ls 10 [(0, .ref t_p_), (4, .ref a_q_3), (5, .int v5_16), (6, .ref a_q_18), (7, .int v7_22)] → W p l e (headSpec wqL_together ({ frames := 10, cells := 91107, slots := 547224, locals := 174 })).room s m ([.ref t_p_, .ref a_a_, .ref a_b_, .int how] : List Value).toArray below meth c H locs 10304 62212 QM (F0 m 143 ls []) := by
          intro n143
          induction n143 with
          | zero =>
            intro v7_22 q136_23 H locs hw hP hD hS ls hl
            exact False.elim hw
          | succ n143 ih143 =>
            intro v7_22 q136_23 H locs hw hP hD hS ls hl
            rw [wl_L_together_143_s] at hw
            refine lv_iload hx hb dL_together_143 (lv_at hl 4 rfl) ?_
            refine lv_iload hx hb dL_together_145 (lv_at hl 2 rfl) ?_
            refine lv_icmp_ge (tgt := 166) hx hb dL_together_147 (by decide) (fun c_31 => ?_) (fun c_31 => ?_)
            · have hw := hw.1 c_31
              obtain ⟨hP, hD⟩ := seg_sub (segs := [[(a_a_, .inl (g 0, n_a_, .inl a_))], [(a_b_, .inl (g 0, n_b_, .inl b_))], [(a_q_3, .inl (g 0, n_6, .inl q13_17))], [(a_q_18, .inl (g 0, n_21, .inl q136_23))], offS ad_15 tp_p_ hd_p_ tf_p_ cf_p_ g o_14]) [[(a_a_, .inl (g 0, n_a_, .inl a_))], [(a_b_, .inl (g 0, n_b_, .inl b_))], [(a_q_18, .inl (g 0, n_21, .inl q136_23))], offS ad_15 tp_p_ hd_p_ tf_p_ cf_p_ g o_14] [[(a_q_3, .inl (g 0, n_6, .inl q13_17))]] 5 [0, 1, 3, 4, 2] rfl rfl (by decide) hP hD
              refine W.widen (k := 10304) (n := 62212) (by omega) (by omega) ?_
              exact EX143_166 q136_23 _ _ hw hP hD hS _ (lv_sub hl [0, 3] rfl)
            · have hw := hw.2 c_31
              refine lv_aload hx hb dL_together_150 (lv_at hl 3 rfl) ?_
              refine lv_iload hx hb dL_together_152 (lv_at hl 4 rfl) ?_
              refine lv_aload hx hb dL_together_154 (lv_at hl 1 rfl) ?_
              refine lv_iload hx hb dL_together_156 (lv_at hl 4 rfl) ?_
              refine va_iald hx hb hK hP 2 0 rfl rfl hw.1 dL_together_158 ?_
              have hw := hw.2
              refine lv_topi (fun x_32 ex_32 => ?_)
              have hw := hw x_32 ex_32
              refine va_iast hx hb hK hP hD hS 3 0 rfl rfl hw.1 dL_together_159 (fun H_33 L_34 hP hD hS => ?_)
              have hw := hw.2
              have hP : va_P (dC, dI) vwCl ([(a_a_, .inl (g 0, n_a_, .inl a_)), (a_b_, .inl (g 0, n_b_, .inl b_)), (a_q_3, .inl (g 0, n_6, .inl q13_17)), (a_q_18, .inl (g 0, n_21, .inl (upd q136_23 v7_22.toNatClampNeg x_32)))] ++ (offS ad_15 tp_p_ hd_p_ tf_p_ cf_p_ g o_14)) H_33 := hP
              have hD : va_D A ([(a_a_, .inl (g 0, n_a_, .inl a_)), (a_b_, .inl (g 0, n_b_, .inl b_)), (a_q_3, .inl (g 0, n_6, .inl q13_17)), (a_q_18, .inl (g 0, n_21, .inl (upd q136_23 v7_22.toNatClampNeg x_32)))] ++ (offS ad_15 tp_p_ hd_p_ tf_p_ cf_p_ g o_14)) := hD
              obtain ⟨x_35, ex_35⟩ : ∃ y : Int32, y = v7_22 + 1 := ⟨_, rfl⟩
              have hw := hw x_35 ex_35
              refine lv_iinc (v := x_35) (lv' := [(7, .int x_35), (0, .ref t_p_), (4, .ref a_q_3), (5, .int v5_16), (6, .ref a_q_18)]) hx hb dL_together_160 hl (k := 4) rfl (by rw [ex_35]; rfl) (by decide) rfl (fun ls hl => ?_)
              refine lv_goto (tgt := 143) hx hb dL_together_163 (by decide) ?_
              refine W.widen (k := 10304) (n := 62212) (by omega) (by omega) ?_
              exact ih143 x_35 (upd q136_23 v7_22.toNatClampNeg x_32) _ _ hw hP hD hS _ (lv_sub hl [1, 2, 3, 4, 0] rfl)
        obtain ⟨n143, hw⟩ := hw
        refine W.widen (k := 10304) (n := 62212) (by omega) (by omega) ?_
        exact LOOP143 n143 0 (fun _ => 0) _ _ hw hP hD hS _ (lv_sub hl [2, 3, 4, 1, 0] rfl)
      refine lv_if_ne (tgt := 134) hx hb dL_together_90 (by decide) (fun c_36 => ?_) (fun c_36 => ?_)
      · have hw := hw.2 c_36
        refine W.widen (k := 10303) (n := 62012) (by omega) (by omega) ?_
        exact JN134 v5_12 q13_13 _ _ hw hP hD hS _ (lv_sub hl [0, 3, 4] rfl)
      · have hw := hw.1 c_36
        refine lv_aload_n hx hb dL_together_93 rfl (lv_at hl 1 rfl) ?_
        refine lv_astore (lv' := [(6, .ref a_b_), (0, .ref t_p_), (2, .ref a_b_), (3, .int how), (4, .ref a_q_3), (5, .int v5_12)]) hx hb dL_together_94 hl (by decide) rfl (fun ls hl => ?_)
        refine lv_aload hx hb dL_together_96 (lv_at hl 0 rfl) ?_
        refine va_alen hx hb hK hP 1 0 rfl rfl (v := nI n_b_) rfl dL_together_98 ?_
        refine lv_istore (lv' := [(7, .int (nI n_b_)), (6, .ref a_b_), (0, .ref t_p_), (2, .ref a_b_), (3, .int how), (4, .ref a_q_3), (5, .int v5_12)]) hx hb dL_together_99 hl (by decide) rfl (fun ls hl => ?_)
        refine lv_iconst (v := 0) hx hb dL_together_101 (by decide) ?_
        refine lv_istore (lv' := [(8, .int 0), (7, .int (nI n_b_)), (6, .ref a_b_), (0, .ref t_p_), (2, .ref a_b_), (3, .int how), (4, .ref a_q_3), (5, .int v5_12)]) hx hb dL_together_102 hl (by decide) rfl (fun ls hl => ?_)
        have EX104_134 : ∀ (v5_40 : Int32) (q13_41 : Nat → Int32) (H : Heap) (locs : List Loc), (wx_L_together_104_134 Q n_6 o_14) v5_40 q13_41 → va_P (dC, dI) vwCl ([(a_a_, .inl (g 0, n_a_, .inl a_)), (a_b_, .inl (g 0, n_b_, .inl b_)), (a_q_3, .inl (g 0, n_6, .inl q13_41))] ++ (offS ad_15 tp_p_ hd_p_ tf_p_ cf_p_ g o_14)) H → va_D A ([(a_a_, .inl (g 0, n_a_, .inl a_)), (a_b_, .inl (g 0, n_b_, .inl b_)), (a_q_3, .inl (g 0, n_6, .inl q13_41))] ++ (offS ad_15 tp_p_ hd_p_ tf_p_ cf_p_ g o_14)) → va_S A s.heap H locs → ∀ (ls : Array Slot), lv_has ls 10 [(0, .ref t_p_), (4, .ref a_q_3), (5, .int v5_40)] → W p l e (headSpec wqL_together ({ frames := 10, cells := 91107, slots := 547224, locals := 174 })).room s m ([.ref t_p_, .ref a_a_, .ref a_b_, .int how] : List Value).toArray below meth c H locs 10303 62012 QM (F0 m 134 ls []) := by
          intro v5_40 q13_41 H locs hw hP hD hS ls hl
          refine W.widen (k := 10303) (n := 62012) (by omega) (by omega) ?_
          exact JN134 v5_40 q13_41 _ _ hw hP hD hS _ (lv_sub hl [0, 1, 2] rfl)
        have LOOP104 : ∀ (n104 : Nat) (v8_37 : Int32) (v5_38 : Int32) (q13_39 : Nat → Int32) (H : Heap) (locs : List Loc), wl_L_together_104 n_b_ b_ n_6 (wx_L_together_104_134 Q n_6 o_14) n104 v8_37 v5_38 q13_39 → va_P (dC, dI) vwCl ([(a_a_, .inl (g 0, n_a_, .inl a_)), (a_b_, .inl (g 0, n_b_, .inl b_)), (a_q_3, .inl (g 0, n_6, .inl q13_39))] ++ (offS ad_15 tp_p_ hd_p_ tf_p_ cf_p_ g o_14)) H → va_D A ([(a_a_, .inl (g 0, n_a_, .inl a_)), (a_b_, .inl (g 0, n_b_, .inl b_)), (a_q_3, .inl (g 0, n_6, .inl q13_39))] ++ (offS ad_15 tp_p_ hd_p_ tf_p_ cf_p_ g o_14)) → va_S A s.heap H locs → ∀ (ls : Array Slot), lv_has ls 10 [(0, .ref t_p_), (4, .ref a_q_3), (5, .int v5_38), (6, .ref a_b_), (7, .int (nI n_b_)), (8, .int v8_37)] → W p l e (headSpec wqL_together ({ frames := 10, cells := 91107, slots := 547224, locals := 174 })).room s m ([.ref t_p_, .ref a_a_, .ref a_b_, .int how] : List Value).toArray below meth c H locs 10303 62012 QM (F0 m 104 ls []) := by
          intro n104
          induction n104 with
          | zero =>
            intro v8_37 v5_38 q13_39 H locs hw hP hD hS ls hl
            exact False.elim hw
          | succ n104 ih104 =>
            intro v8_37 v5_38 q13_39 H locs hw hP hD hS ls hl
            rw [wl_L_together_104_s] at hw
            refine lv_iload hx hb dL_together_104 (lv_at hl 5 rfl) ?_
            refine lv_iload hx hb dL_together_106 (lv_at hl 4 rfl) ?_
            refine lv_icmp_ge (tgt := 134) hx hb dL_together_108 (by decide) (fun c_42 => ?_) (fun c_42 => ?_)
            · have hw := hw.1 c_42
              refine W.widen (k := 10303) (n := 62012) (by omega) (by omega) ?_
              exact EX104_134 v5_38 q13_39 _ _ hw hP hD hS _ (lv_sub hl [0, 1, 2] rfl)
            · have hw := hw.2 c_42
              refine lv_aload hx hb dL_together_111 (lv_at hl 3 rfl) ?_
              refine lv_iload hx hb dL_together_113 (lv_at hl 5 rfl) ?_
              refine va_iald hx hb hK hP 1 0 rfl rfl hw.1 dL_together_115 ?_
              have hw := hw.2
              refine lv_topi (fun x_43 ex_43 => ?_)
              have hw := hw x_43 ex_43
              refine lv_istore (lv' := [(9, .int x_43), (0, .ref t_p_), (4, .ref a_q_3), (5, .int v5_38), (6, .ref a_b_), (7, .int (nI n_b_)), (8, .int v8_37)]) hx hb dL_together_116 hl (by decide) rfl (fun ls hl => ?_)
              refine lv_aload hx hb dL_together_118 (lv_at hl 2 rfl) ?_
              refine lv_iload hx hb dL_together_120 (lv_at hl 3 rfl) ?_
              obtain ⟨x_44, ex_44⟩ : ∃ y : Int32, y = v5_38 + 1 := ⟨_, rfl⟩
              have hw := hw x_44 ex_44
              refine lv_iinc (v := x_44) (lv' := [(5, .int x_44), (9, .int x_43), (0, .ref t_p_), (4, .ref a_q_3), (6, .ref a_b_), (7, .int (nI n_b_)), (8, .int v8_37)]) hx hb dL_together_122 hl (k := 3) rfl (by rw [ex_44]; rfl) (by decide) rfl (fun ls hl => ?_)
              refine lv_iload hx hb dL_together_125 (lv_at hl 1 rfl) ?_
              refine va_iast hx hb hK hP hD hS 2 0 rfl rfl hw.1 dL_together_127 (fun H_45 L_46 hP hD hS => ?_)
              have hw := hw.2
              have hP : va_P (dC, dI) vwCl ([(a_a_, .inl (g 0, n_a_, .inl a_)), (a_b_, .inl (g 0, n_b_, .inl b_)), (a_q_3, .inl (g 0, n_6, .inl (upd q13_39 v5_38.toNatClampNeg x_43)))] ++ (offS ad_15 tp_p_ hd_p_ tf_p_ cf_p_ g o_14)) H_45 := hP
              have hD : va_D A ([(a_a_, .inl (g 0, n_a_, .inl a_)), (a_b_, .inl (g 0, n_b_, .inl b_)), (a_q_3, .inl (g 0, n_6, .inl (upd q13_39 v5_38.toNatClampNeg x_43)))] ++ (offS ad_15 tp_p_ hd_p_ tf_p_ cf_p_ g o_14)) := hD
              obtain ⟨x_47, ex_47⟩ : ∃ y : Int32, y = v8_37 + 1 := ⟨_, rfl⟩
              have hw := hw x_47 ex_47
              refine lv_iinc (v := x_47) (lv' := [(8, .int x_47), (5, .int x_44), (9, .int x_43), (0, .ref t_p_), (4, .ref a_q_3), (6, .ref a_b_), (7, .int (nI n_b_))]) hx hb dL_together_128 hl (k := 6) rfl (by rw [ex_47]; rfl) (by decide) rfl (fun ls hl => ?_)
              refine lv_goto (tgt := 104) hx hb dL_together_131 (by decide) ?_
              refine W.widen (k := 10303) (n := 62012) (by omega) (by omega) ?_
              exact ih104 x_47 x_44 (upd q13_39 v5_38.toNatClampNeg x_43) _ _ hw hP hD hS _ (lv_sub hl [3, 4, 1, 5, 6, 0] rfl)
        obtain ⟨n104, hw⟩ := hw
        refine W.widen (k := 10303) (n := 62012) (by omega) (by omega) ?_
        exact LOOP104 n104 0 v5_12 q13_13 _ _ hw hP hD hS _ (lv_sub hl [3, 6, 7, 2, 1, 0] rfl)
    have LOOP31 : ∀ (n31 : Nat), n31 ≤ 101 → ∀ (v8_7 : Int32) (v5_8 : Int32) (q13_9 : Nat → Int32) (o_10 : OS) (ad_11 : Nat → Nat) (had_11 : ad_11 0 = t_p_) (H : Heap) (locs : List Loc), wl_L_together_31 n_a_ a_ n_b_ b_ how n_6 (wx_L_together_31_89 n_b_ b_ how Q n_6) n31 v8_7 v5_8 q13_9 o_10 → va_P (dC, dI) vwCl ([(a_a_, .inl (g 0, n_a_, .inl a_)), (a_b_, .inl (g 0, n_b_, .inl b_)), (a_q_3, .inl (g 0, n_6, .inl q13_9))] ++ (offS ad_11 tp_p_ hd_p_ tf_p_ cf_p_ g o_10)) H → va_D A ([(a_a_, .inl (g 0, n_a_, .inl a_)), (a_b_, .inl (g 0, n_b_, .inl b_)), (a_q_3, .inl (g 0, n_6, .inl q13_9))] ++ (offS ad_11 tp_p_ hd_p_ tf_p_ cf_p_ g o_10)) → va_S A s.heap H locs → ∀ (ls : Array Slot), lv_has ls 10 [(0, .ref t_p_), (2, .ref a_b_), (3, .int how), (4, .ref a_q_3), (5, .int v5_8), (6, .ref a_a_), (7, .int (nI n_a_)), (8, .int v8_7)] → W p l e (headSpec wqL_together ({ frames := 10, cells := 91107, slots := 547224, locals := 174 })).room s m ([.ref t_p_, .ref a_a_, .ref a_b_, .int how] : List Value).toArray below meth c H locs (10303 - n31 * 102) (62012 - n31 * 612) QM (F0 m 31 ls []) := by
      intro n31
      induction n31 with
      | zero =>
        intro hle_n31
        intro v8_7 v5_8 q13_9 o_10 ad_11 had_11 H locs hw hP hD hS ls hl
        exact False.elim hw
      | succ n31 ih31 =>
        intro hle_n31
        have ih31 := ih31 (by omega)
        intro v8_7 v5_8 q13_9 o_10 ad_11 had_11 H locs hw hP hD hS ls hl
        rw [wl_L_together_31_s] at hw
        obtain ⟨kb31, hkb31⟩ : ∃ x : Nat, x = 10303 - (n31 + 1) * 102 := ⟨_, rfl⟩
        obtain ⟨nb31, hnb31⟩ : ∃ x : Nat, x = 62012 - (n31 + 1) * 612 := ⟨_, rfl⟩
        refine W.widen (k := kb31) (n := nb31) (by omega) (by omega) ?_
        refine lv_iload hx hb dL_together_31 (lv_at hl 7 rfl) ?_
        refine lv_iload hx hb dL_together_33 (lv_at hl 6 rfl) ?_
        refine lv_icmp_ge (tgt := 89) hx hb dL_together_35 (by decide) (fun c_48 => ?_) (fun c_48 => ?_)
        · have hw := hw.1 c_48
          refine W.widen (k := 10303) (n := 62012) (by omega) (by omega) ?_
          exact EX31_89 v5_8 q13_9 o_10 ad_11 had_11 _ _ hw hP hD hS _ (lv_sub hl [0, 1, 2, 3, 4] rfl)
        · have hw := hw.2 c_48
          refine lv_aload hx hb dL_together_38 (lv_at hl 5 rfl) ?_
          refine lv_iload hx hb dL_together_40 (lv_at hl 7 rfl) ?_
          refine va_iald hx hb hK hP 0 0 rfl rfl hw.1 dL_together_42 ?_
          have hw := hw.2
          refine lv_topi (fun x_49 ex_49 => ?_)
          have hw := hw x_49 ex_49
          refine lv_istore (lv' := [(9, .int x_49), (0, .ref t_p_), (2, .ref a_b_), (3, .int how), (4, .ref a_q_3), (5, .int v5_8), (6, .ref a_a_), (7, .int (nI n_a_)), (8, .int v8_7)]) hx hb dL_together_43 hl (by decide) rfl (fun ls hl => ?_)
          refine lv_iload_n hx hb dL_together_45 rfl (lv_at hl 3 rfl) ?_
          have JN73 : ∀ (o_50 : OS) (ad_51 : Nat → Nat) (had_51 : ad_51 0 = t_p_) (H : Heap) (locs : List Loc), (wj_L_together_73 n_6 v8_7 v5_8 q13_9 (wl_L_together_31 n_a_ a_ n_b_ b_ how n_6 (wx_L_together_31_89 n_b_ b_ how Q n_6) n31) x_49) o_50 → va_P (dC, dI) vwCl ([(a_a_, .inl (g 0, n_a_, .inl a_)), (a_b_, .inl (g 0, n_b_, .inl b_)), (a_q_3, .inl (g 0, n_6, .inl q13_9))] ++ (offS ad_51 tp_p_ hd_p_ tf_p_ cf_p_ g o_50)) H → va_D A ([(a_a_, .inl (g 0, n_a_, .inl a_)), (a_b_, .inl (g 0, n_b_, .inl b_)), (a_q_3, .inl (g 0, n_6, .inl q13_9))] ++ (offS ad_51 tp_p_ hd_p_ tf_p_ cf_p_ g o_50)) → va_S A s.heap H locs → ∀ (ls : Array Slot), lv_has ls 10 [(0, .ref t_p_), (2, .ref a_b_), (3, .int how), (4, .ref a_q_3), (5, .int v5_8), (6, .ref a_a_), (7, .int (nI n_a_)), (8, .int v8_7), (9, .int x_49)] → W p l e (headSpec wqL_together ({ frames := 10, cells := 91107, slots := 547224, locals := 174 })).room s m ([.ref t_p_, .ref a_a_, .ref a_b_, .int how] : List Value).toArray below meth c H locs (kb31 + 102) (nb31 + 612) QM (F0 m 73 ls []) := by
            intro o_50 ad_51 had_51 H locs hw hP hD hS ls hl
            refine lv_aload hx hb dL_together_73 (lv_at hl 3 rfl) ?_
            refine lv_iload hx hb dL_together_75 (lv_at hl 4 rfl) ?_
            obtain ⟨x_52, ex_52⟩ : ∃ y : Int32, y = v5_8 + 1 := ⟨_, rfl⟩
            have hw := hw x_52 ex_52
            refine lv_iinc (v := x_52) (lv' := [(5, .int x_52), (0, .ref t_p_), (2, .ref a_b_), (3, .int how), (4, .ref a_q_3), (6, .ref a_a_), (7, .int (nI n_a_)), (8, .int v8_7), (9, .int x_49)]) hx hb dL_together_77 hl (k := 4) rfl (by rw [ex_52]; rfl) (by decide) rfl (fun ls hl => ?_)
            refine lv_iload hx hb dL_together_80 (lv_at hl 8 rfl) ?_
            refine va_iast hx hb hK hP hD hS 2 0 rfl rfl hw.1 dL_together_82 (fun H_53 L_54 hP hD hS => ?_)
            have hw := hw.2
            have hP : va_P (dC, dI) vwCl ([(a_a_, .inl (g 0, n_a_, .inl a_)), (a_b_, .inl (g 0, n_b_, .inl b_)), (a_q_3, .inl (g 0, n_6, .inl (upd q13_9 v5_8.toNatClampNeg x_49)))] ++ (offS ad_51 tp_p_ hd_p_ tf_p_ cf_p_ g o_50)) H_53 := hP
            have hD : va_D A ([(a_a_, .inl (g 0, n_a_, .inl a_)), (a_b_, .inl (g 0, n_b_, .inl b_)), (a_q_3, .inl (g 0, n_6, .inl (upd q13_9 v5_8.toNatClampNeg x_49)))] ++ (offS ad_51 tp_p_ hd_p_ tf_p_ cf_p_ g o_50)) := hD
            obtain ⟨x_55, ex_55⟩ : ∃ y : Int32, y = v8_7 + 1 := ⟨_, rfl⟩
            have hw := hw x_55 ex_55
            refine lv_iinc (v := x_55) (lv' := [(8, .int x_55), (5, .int x_52), (0, .ref t_p_), (2, .ref a_b_), (3, .int how), (4, .ref a_q_3), (6, .ref a_a_), (7, .int (nI n_a_)), (9, .int x_49)]) hx hb dL_together_83 hl (k := 7) rfl (by rw [ex_55]; rfl) (by decide) rfl (fun ls hl => ?_)
            refine lv_goto (tgt := 31) hx hb dL_together_86 (by decide) ?_
            refine W.widen (k := (10303 - n31 * 102)) (n := (62012 - n31 * 612)) (by omega) (by omega) ?_
            exact ih31 x_55 x_52 (upd q13_9 v5_8.toNatClampNeg x_49) o_50 ad_51 had_51 _ _ hw hP hD hS _ (lv_sub hl [2, 3, 4, 5, 1, 6, 7, 0] rfl)
          refine lv_if_eq (tgt := 73) hx hb dL_together_46 (by decide) (fun c_56 => ?_) (fun c_56 => ?_)
          · have hw := hw.1 c_56
            refine W.widen (k := (kb31 + 102)) (n := (nb31 + 612)) (by omega) (by omega) ?_
            exact JN73 o_10 ad_11 had_11 _ _ hw hP hD hS _ (lv_sub hl [1, 2, 3, 4, 5, 6, 7, 8, 0] rfl)
          · have hw := hw.2 c_56
            refine lv_aload_n hx hb dL_together_49 rfl (lv_at hl 1 rfl) ?_
            refine lv_aload_n hx hb dL_together_50 rfl (lv_at hl 2 rfl) ?_
            refine lv_aload_n hx hb dL_together_51 rfl (lv_at hl 1 rfl) ?_
            refine lv_iload hx hb dL_together_52 (lv_at hl 0 rfl) ?_
            obtain ⟨hPs, hDs⟩ := seg_call (segs := [[(a_a_, .inl (g 0, n_a_, .inl a_))], [(a_b_, .inl (g 0, n_b_, .inl b_))], [(a_q_3, .inl (g 0, n_6, .inl q13_9))], offS ad_11 tp_p_ hd_p_ tf_p_ cf_p_ g o_10]) [[(a_a_, .inl (g 0, n_a_, .inl a_))], [(a_b_, .inl (g 0, n_b_, .inl b_))], [(a_q_3, .inl (g 0, n_6, .inl q13_9))]] [offS ad_11 tp_p_ hd_p_ tf_p_ cf_p_ g o_10] 4 [0, 1, 2, 3] rfl rfl (by decide) hP hD
            have hPc : va_P (dC, dI) vwCl (offS ad_11 tp_p_ hd_p_ tf_p_ cf_p_ g o_10) H := P_r hPs
            have hDc : va_D A (offS ad_11 tp_p_ hd_p_ tf_p_ cf_p_ g o_10) := D_r hDs
            have hFc : ∀ q, va_A (offS ad_11 tp_p_ hd_p_ tf_p_ cf_p_ g o_10) H.size q → A q := A_all hDc hA hS.1
            refine vx_calli (vx_runV (As := [.int x_49]) (rest := [.ref a_b_, .ref t_p_]) ⟨hx, hb, hml, hown, hts⟩ (p_key l hlf dC dI g tp_p_ hd_p_ tf_p_ cf_p_ htf_p_ hcf_p_ ad_11 t_p_ had_11 o_10 x_49 (hw := hw) (sz := H.size)) (cwV 1 hts (gqV aw_4_21 aw_4_22 aw_4_23 aw_1_1 aw_4_24) rfl rfl rfl (by decide +kernel) ⟨Nat.le_of_ble_eq_true rfl, Nat.le_of_ble_eq_true rfl⟩) ⟨PG_blind, off_recv had_11 hK hPc, PG_call hK hG hS hPc hDc hFc⟩ rfl rfl hl.1 rfl (lv_room (Nat.le_of_ble_eq_true rfl)) dL_together_54 ⟨by rw [hrc]; omega, by rw [hrs]; omega⟩) hS (fun q _ h => hFc q h) hFc (fun q _ h => hFc q h) (fun E ce q9 ux t H1 locs1 ht hvm hp9 hB9 hz hk hS9 hce hcv hcl => ?_) (fun r_57 u_57 t_57 H_57 L_57 ht_57 hvm_57 hw_57 hB_57 hz_57 hk_57 hS => ?_)
            · exact (hB9.1.1).elim
            obtain ⟨ad_58, o_59⟩ := u_57
            obtain ⟨hw, had_58⟩ := hw_57
            rw [ht_57] at hB_57
            obtain ⟨hP1, hD1⟩ := hB_57
            obtain ⟨hP, hD⟩ := join_r hPs hDs hk_57 hFc hP1 hD1
            obtain ⟨hP, hD⟩ := seg_join [[(a_a_, .inl (g 0, n_a_, .inl a_))], [(a_b_, .inl (g 0, n_b_, .inl b_))], [(a_q_3, .inl (g 0, n_6, .inl q13_9))]] [offS ad_58 tp_p_ hd_p_ tf_p_ cf_p_ g o_59] [[(a_a_, .inl (g 0, n_a_, .inl a_))], [(a_b_, .inl (g 0, n_b_, .inl b_))], [(a_q_3, .inl (g 0, n_6, .inl q13_9))], offS ad_58 tp_p_ hd_p_ tf_p_ cf_p_ g o_59] 4 [0, 1, 2, 3] rfl rfl (by decide) hP hD
            have hP : va_P (dC, dI) vwCl ([(a_a_, .inl (g 0, n_a_, .inl a_)), (a_b_, .inl (g 0, n_b_, .inl b_)), (a_q_3, .inl (g 0, n_6, .inl q13_9))] ++ (offS ad_58 tp_p_ hd_p_ tf_p_ cf_p_ g o_59)) H_57 := hP
            have hD : va_D A ([(a_a_, .inl (g 0, n_a_, .inl a_)), (a_b_, .inl (g 0, n_b_, .inl b_)), (a_q_3, .inl (g 0, n_6, .inl q13_9))] ++ (offS ad_58 tp_p_ hd_p_ tf_p_ cf_p_ g o_59)) := hD
            refine W.widen (k := (kb31 + 1)) (n := (nb31 + 6)) (by omega) (by omega) ?_
            obtain ⟨hPs, hDs⟩ := seg_call (segs := [[(a_a_, .inl (g 0, n_a_, .inl a_))], [(a_b_, .inl (g 0, n_b_, .inl b_))], [(a_q_3, .inl (g 0, n_6, .inl q13_9))], offS ad_58 tp_p_ hd_p_ tf_p_ cf_p_ g o_59]) [[(a_a_, .inl (g 0, n_a_, .inl a_))], [(a_q_3, .inl (g 0, n_6, .inl q13_9))]] [[(a_b_, .inl (g 0, n_b_, .inl b_))], offS ad_58 tp_p_ hd_p_ tf_p_ cf_p_ g o_59] 4 [0, 2, 1, 3] rfl rfl (by decide) hP hD
            have hPc : va_P (dC, dI) vwCl ([(a_b_, .inl (g 0, n_b_, .inl b_))] ++ (offS ad_58 tp_p_ hd_p_ tf_p_ cf_p_ g o_59)) H_57 := P_r hPs
            have hDc : va_D A ([(a_b_, .inl (g 0, n_b_, .inl b_))] ++ (offS ad_58 tp_p_ hd_p_ tf_p_ cf_p_ g o_59)) := D_r hDs
            have hFc : ∀ q, va_A ([(a_b_, .inl (g 0, n_b_, .inl b_))] ++ (offS ad_58 tp_p_ hd_p_ tf_p_ cf_p_ g o_59)) H_57.size q → A q := A_all hDc hA hS.1
            refine va_calli (va_runS (As := [.ref t_p_, .ref a_b_, .int r_57]) (rest := []) ⟨hx, hb, hml, hown, hts⟩ (c_L_hasKey l hlf dC dI g (tp_p_ := tp_p_) (hd_p_ := hd_p_) (tf_p_ := tf_p_) (cf_p_ := cf_p_) (htf_p_ := htf_p_) (hcf_p_ := hcf_p_) (a_p_ := ad_58) (t_p_ := t_p_) (h_p_ := had_58) (o_p_ := o_59) (a_all := a_b_) (n_all := n_b_) (all := b_) (key := r_57) (hw := hw) (sz := H_57.size)) (va_cwS 3 hts (gqS aw_6_83 aw_6_84 aw_1_0 aw_6_85) rfl rfl rfl (by decide +kernel) ⟨Nat.le_of_ble_eq_true rfl, Nat.le_of_ble_eq_true rfl⟩) ⟨PG_blind, PG_call hK hG hS hPc hDc hFc⟩ rfl rfl hl.1 rfl (lv_room (Nat.le_of_ble_eq_true rfl)) dL_together_57 ⟨by rw [hrc]; omega, by rw [hrs]; omega⟩) hS (fun q _ h => hFc q h) hFc (fun r_60 u_60 t_60 H_60 L_60 ht_60 hvm_60 hw_60 hB_60 hz_60 hk_60 hS => ?_)
            obtain ⟨ad_61, o_62, u_60⟩ := u_60
            obtain ⟨b_60, rfl, ⟨hw, had_61⟩⟩ := hw_60
            rw [ht_60] at hB_60
            obtain ⟨hP1, hD1⟩ := hB_60
            obtain ⟨hP, hD⟩ := join_r hPs hDs hk_60 hFc hP1 hD1
            obtain ⟨hP, hD⟩ := seg_join [[(a_a_, .inl (g 0, n_a_, .inl a_))], [(a_q_3, .inl (g 0, n_6, .inl q13_9))]] [[(a_b_, .inl (g 0, n_b_, .inl b_))], offS ad_61 tp_p_ hd_p_ tf_p_ cf_p_ g o_62] [[(a_a_, .inl (g 0, n_a_, .inl a_))], [(a_b_, .inl (g 0, n_b_, .inl b_))], [(a_q_3, .inl (g 0, n_6, .inl q13_9))], offS ad_61 tp_p_ hd_p_ tf_p_ cf_p_ g o_62] 4 [0, 2, 1, 3] rfl rfl (by decide) hP hD
            have hP : va_P (dC, dI) vwCl ([(a_a_, .inl (g 0, n_a_, .inl a_)), (a_b_, .inl (g 0, n_b_, .inl b_)), (a_q_3, .inl (g 0, n_6, .inl q13_9))] ++ (offS ad_61 tp_p_ hd_p_ tf_p_ cf_p_ g o_62)) H_60 := hP
            have hD : va_D A ([(a_a_, .inl (g 0, n_a_, .inl a_)), (a_b_, .inl (g 0, n_b_, .inl b_)), (a_q_3, .inl (g 0, n_6, .inl q13_9))] ++ (offS ad_61 tp_p_ hd_p_ tf_p_ cf_p_ g o_62)) := hD
            refine W.widen (k := (kb31 + 102)) (n := (nb31 + 612)) (by omega) (by omega) ?_
            refine lv_iload_n hx hb dL_together_60 rfl (lv_at hl 3 rfl) ?_
            refine lv_iconst (v := 1) hx hb dL_together_61 (by decide) ?_
            have JN70 : ∀ (sk0_63 : Bool) (H : Heap) (locs : List Loc), (wj_L_together_70 n_6 v8_7 v5_8 q13_9 (wl_L_together_31 n_a_ a_ n_b_ b_ how n_6 (wx_L_together_31_89 n_b_ b_ how Q n_6) n31) x_49 o_62 b_60) sk0_63 → va_P (dC, dI) vwCl ([(a_a_, .inl (g 0, n_a_, .inl a_)), (a_b_, .inl (g 0, n_b_, .inl b_)), (a_q_3, .inl (g 0, n_6, .inl q13_9))] ++ (offS ad_61 tp_p_ hd_p_ tf_p_ cf_p_ g o_62)) H → va_D A ([(a_a_, .inl (g 0, n_a_, .inl a_)), (a_b_, .inl (g 0, n_b_, .inl b_)), (a_q_3, .inl (g 0, n_6, .inl q13_9))] ++ (offS ad_61 tp_p_ hd_p_ tf_p_ cf_p_ g o_62)) → va_S A s.heap H locs → ∀ (ls : Array Slot), lv_has ls 10 [(0, .ref t_p_), (2, .ref a_b_), (3, .int how), (4, .ref a_q_3), (5, .int v5_8), (6, .ref a_a_), (7, .int (nI n_a_)), (8, .int v8_7), (9, .int x_49)] → W p l e (headSpec wqL_together ({ frames := 10, cells := 91107, slots := 547224, locals := 174 })).room s m ([.ref t_p_, .ref a_a_, .ref a_b_, .int how] : List Value).toArray below meth c H locs (kb31 + 102) (nb31 + 612) QM (F0 m 70 ls [.int (b2i sk0_63), .int (b2i b_60)]) := by
              intro sk0_63 H locs hw hP hD hS ls hl
              refine lv_icmp_ne (tgt := 83) hx hb dL_together_70 (by decide) (fun c_64 => ?_) (fun c_64 => ?_)
              · have hw := hw.2 c_64
                obtain ⟨x_65, ex_65⟩ : ∃ y : Int32, y = v8_7 + 1 := ⟨_, rfl⟩
                have hw := hw x_65 ex_65
                refine lv_iinc (v := x_65) (lv' := [(8, .int x_65), (0, .ref t_p_), (2, .ref a_b_), (3, .int how), (4, .ref a_q_3), (5, .int v5_8), (6, .ref a_a_), (7, .int (nI n_a_)), (9, .int x_49)]) hx hb dL_together_83 hl (k := 7) rfl (by rw [ex_65]; rfl) (by decide) rfl (fun ls hl => ?_)
                refine lv_goto (tgt := 31) hx hb dL_together_86 (by decide) ?_
                refine W.widen (k := (10303 - n31 * 102)) (n := (62012 - n31 * 612)) (by omega) (by omega) ?_
                exact ih31 x_65 v5_8 q13_9 o_62 ad_61 had_61 _ _ hw hP hD hS _ (lv_sub hl [1, 2, 3, 4, 5, 6, 7, 0] rfl)
              · have hw := hw.1 c_64
                refine W.widen (k := (kb31 + 102)) (n := (nb31 + 612)) (by omega) (by omega) ?_
                exact JN73 o_62 ad_61 had_61 _ _ hw hP hD hS _ (lv_sub hl [0, 1, 2, 3, 4, 5, 6, 7, 8] rfl)
            refine lv_icmp_ne (tgt := 69) hx hb dL_together_62 (by decide) (fun c_66 => ?_) (fun c_66 => ?_)
            · have hw := hw.2 c_66
              refine lv_iconst (v := 0) hx hb dL_together_69 (by decide) ?_
              refine W.widen (k := (kb31 + 102)) (n := (nb31 + 612)) (by omega) (by omega) ?_
              exact JN70 false _ _ hw hP hD hS _ (lv_sub hl [1, 2, 3, 4, 5, 6, 7, 8, 0] rfl)
            · have hw := hw.1 c_66
              refine lv_iconst (v := 1) hx hb dL_together_65 (by decide) ?_
              refine lv_goto (tgt := 70) hx hb dL_together_66 (by decide) ?_
              refine W.widen (k := (kb31 + 102)) (n := (nb31 + 612)) (by omega) (by omega) ?_
              exact JN70 true _ _ hw hP hD hS _ (lv_sub hl [1, 2, 3, 4, 5, 6, 7, 8, 0] rfl)
    obtain ⟨n31, hle31, hw⟩ := hw
    refine W.widen (k := (10303 - n31 * 102)) (n := (62012 - n31 * 612)) (by omega) (by omega) ?_
    exact LOOP31 n31 hle31 0 0 (fun _ => 0) o_p_ a_p_ h_p_ _ _ hw hP hD hS _ (lv_sub hl [5, 7, 8, 4, 3, 2, 1, 0] rfl)
  refine lv_if_ne (tgt := 11) hx hb dL_together_3 (by decide) (fun c_67 => ?_) (fun c_67 => ?_)
  · have hw := hw.2 c_67
    refine lv_iconst (v := 0) hx hb dL_together_11 (by decide) ?_
    refine W.widen (k := 0) (n := 0) (by omega) (by omega) ?_
    exact JN12 0 _ _ hw hP hD hS _ (lv_sub hl [0, 1, 2, 3] rfl)
  · have hw := hw.1 c_67
    refine lv_aload_n hx hb dL_together_6 rfl (lv_at hl 2 rfl) ?_
    refine va_alen hx hb hK hP 1 0 rfl rfl (v := nI n_b_) rfl dL_together_7 ?_
    refine lv_goto (tgt := 12) hx hb dL_together_8 (by decide) ?_
    refine W.widen (k := 0) (n := 0) (by omega) (by omega) ?_
    exact JN12 (nI n_b_) _ _ hw hP hD hS _ (lv_sub hl [0, 1, 2, 3] rfl)
theorem dL_draws_0 : decode cL_draws 0 = .ok (.aload_n 0, 1) := by decide +kernel
theorem dL_draws_1 : decode cL_draws 1 = .ok (.iload_n 2, 1) := by decide +kernel
theorem dL_draws_2 : decode cL_draws 2 = .ok (.invokevirtual 100, 3) := by decide +kernel
theorem dL_draws_5 : decode cL_draws 5 = .ok (.istore_n 3, 1) := by decide +kernel
theorem dL_draws_6 : decode cL_draws 6 = .ok (.aload_n 1, 1) := by decide +kernel
theorem dL_draws_7 : decode cL_draws 7 = .ok (.iconst 3, 1) := by decide +kernel
theorem dL_draws_8 : decode cL_draws 8 = .ok (.invokestatic 103, 3) := by decide +kernel
theorem dL_draws_32 : decode cL_draws 32 = .ok (.istore 4, 2) := by decide +kernel
theorem dL_draws_34 : decode cL_draws 34 = .ok (.aload_n 1, 1) := by decide +kernel
theorem dL_draws_35 : decode cL_draws 35 = .ok (.iconst 5, 1) := by decide +kernel
theorem dL_draws_36 : decode cL_draws 36 = .ok (.invokestatic 103, 3) := by decide +kernel
theorem dL_draws_39 : decode cL_draws 39 = .ok (.tableswitch 175 0 3 #[29, 59, 84, 110], 29) := by decide +kernel
theorem dL_draws_68 : decode cL_draws 68 = .ok (.aload_n 0, 1) := by decide +kernel
theorem dL_draws_69 : decode cL_draws 69 = .ok (.iload_n 2, 1) := by decide +kernel
theorem dL_draws_70 : decode cL_draws 70 = .ok (.aload_n 1, 1) := by decide +kernel
theorem dL_draws_71 : decode cL_draws 71 = .ok (.sipush 199, 3) := by decide +kernel
theorem dL_draws_74 : decode cL_draws 74 = .ok (.invokestatic 103, 3) := by decide +kernel
theorem dL_draws_77 : decode cL_draws 77 = .ok (.bipush 99, 2) := by decide +kernel
theorem dL_draws_79 : decode cL_draws 79 = .ok (.isub, 1) := by decide +kernel
theorem dL_draws_80 : decode cL_draws 80 = .ok (.aload_n 1, 1) := by decide +kernel
theorem dL_draws_81 : decode cL_draws 81 = .ok (.bipush 31, 2) := by decide +kernel
theorem dL_draws_83 : decode cL_draws 83 = .ok (.invokestatic 103, 3) := by decide +kernel
theorem dL_draws_86 : decode cL_draws 86 = .ok (.bipush 15, 2) := by decide +kernel
theorem dL_draws_88 : decode cL_draws 88 = .ok (.isub, 1) := by decide +kernel
theorem dL_draws_89 : decode cL_draws 89 = .ok (.iload 4, 2) := by decide +kernel
theorem dL_draws_91 : decode cL_draws 91 = .ok (.invokevirtual 23, 3) := by decide +kernel
theorem dL_draws_94 : decode cL_draws 94 = .ok (.istore_n 3, 1) := by decide +kernel
theorem dL_draws_95 : decode cL_draws 95 = .ok (.goto 163, 3) := by decide +kernel
theorem dL_draws_258 : decode cL_draws 258 = .ok (.return_, 1) := by decide +kernel
theorem dL_draws_98 : decode cL_draws 98 = .ok (.aload_n 0, 1) := by decide +kernel
theorem dL_draws_99 : decode cL_draws 99 = .ok (.iload_n 2, 1) := by decide +kernel
theorem dL_draws_100 : decode cL_draws 100 = .ok (.iload 4, 2) := by decide +kernel
theorem dL_draws_102 : decode cL_draws 102 = .ok (.iconst 1, 1) := by decide +kernel
theorem dL_draws_103 : decode cL_draws 103 = .ok (.aload_n 1, 1) := by decide +kernel
theorem dL_draws_104 : decode cL_draws 104 = .ok (.bipush 9, 2) := by decide +kernel
theorem dL_draws_106 : decode cL_draws 106 = .ok (.invokestatic 103, 3) := by decide +kernel
theorem dL_draws_109 : decode cL_draws 109 = .ok (.iadd, 1) := by decide +kernel
theorem dL_draws_110 : decode cL_draws 110 = .ok (.aload_n 1, 1) := by decide +kernel
theorem dL_draws_111 : decode cL_draws 111 = .ok (.ldc 107, 2) := by decide +kernel
theorem dL_draws_113 : decode cL_draws 113 = .ok (.invokestatic 103, 3) := by decide +kernel
theorem dL_draws_116 : decode cL_draws 116 = .ok (.invokevirtual 27, 3) := by decide +kernel
theorem dL_draws_119 : decode cL_draws 119 = .ok (.istore_n 3, 1) := by decide +kernel
theorem dL_draws_120 : decode cL_draws 120 = .ok (.goto 138, 3) := by decide +kernel
theorem dL_draws_123 : decode cL_draws 123 = .ok (.aload_n 0, 1) := by decide +kernel
theorem dL_draws_124 : decode cL_draws 124 = .ok (.iload_n 2, 1) := by decide +kernel
theorem dL_draws_125 : decode cL_draws 125 = .ok (.iload 4, 2) := by decide +kernel
theorem dL_draws_127 : decode cL_draws 127 = .ok (.iconst 1, 1) := by decide +kernel
theorem dL_draws_128 : decode cL_draws 128 = .ok (.aload_n 1, 1) := by decide +kernel
theorem dL_draws_129 : decode cL_draws 129 = .ok (.sipush 999, 3) := by decide +kernel
theorem dL_draws_132 : decode cL_draws 132 = .ok (.invokestatic 103, 3) := by decide +kernel
theorem dL_draws_135 : decode cL_draws 135 = .ok (.iadd, 1) := by decide +kernel
theorem dL_draws_136 : decode cL_draws 136 = .ok (.aload_n 1, 1) := by decide +kernel
theorem dL_draws_137 : decode cL_draws 137 = .ok (.invokestatic 13, 3) := by decide +kernel
theorem dL_draws_140 : decode cL_draws 140 = .ok (.iconst 1, 1) := by decide +kernel
theorem dL_draws_141 : decode cL_draws 141 = .ok (.iushr, 1) := by decide +kernel
theorem dL_draws_142 : decode cL_draws 142 = .ok (.invokevirtual 27, 3) := by decide +kernel
theorem dL_draws_145 : decode cL_draws 145 = .ok (.istore_n 3, 1) := by decide +kernel
theorem dL_draws_146 : decode cL_draws 146 = .ok (.goto 112, 3) := by decide +kernel
theorem dL_draws_149 : decode cL_draws 149 = .ok (.iload 4, 2) := by decide +kernel
theorem dL_draws_151 : decode cL_draws 151 = .ok (.iconst 2, 1) := by decide +kernel
theorem dL_draws_152 : decode cL_draws 152 = .ok (.idiv, 1) := by decide +kernel
theorem dL_draws_153 : decode cL_draws 153 = .ok (.istore 5, 2) := by decide +kernel
theorem dL_draws_187 : decode cL_draws 187 = .ok (.aload_n 0, 1) := by decide +kernel
theorem dL_draws_188 : decode cL_draws 188 = .ok (.iload_n 2, 1) := by decide +kernel
theorem dL_draws_189 : decode cL_draws 189 = .ok (.bipush 7, 2) := by decide +kernel
theorem dL_draws_191 : decode cL_draws 191 = .ok (.invokevirtual 108, 3) := by decide +kernel
theorem dL_draws_194 : decode cL_draws 194 = .ok (.aload_n 0, 1) := by decide +kernel
theorem dL_draws_195 : decode cL_draws 195 = .ok (.bipush 7, 2) := by decide +kernel
theorem dL_draws_197 : decode cL_draws 197 = .ok (.invokevirtual 111, 3) := by decide +kernel
theorem dL_draws_200 : decode cL_draws 200 = .ok (.iadd, 1) := by decide +kernel
theorem dL_draws_201 : decode cL_draws 201 = .ok (.istore_n 3, 1) := by decide +kernel
theorem dL_draws_202 : decode cL_draws 202 = .ok (.aload_n 0, 1) := by decide +kernel
theorem dL_draws_203 : decode cL_draws 203 = .ok (.iload_n 2, 1) := by decide +kernel
theorem dL_draws_204 : decode cL_draws 204 = .ok (.iconst 3, 1) := by decide +kernel
theorem dL_draws_205 : decode cL_draws 205 = .ok (.iconst 5, 1) := by decide +kernel
theorem dL_draws_206 : decode cL_draws 206 = .ok (.iconst 1, 1) := by decide +kernel
theorem dL_draws_207 : decode cL_draws 207 = .ok (.invokevirtual 27, 3) := by decide +kernel
theorem dL_draws_210 : decode cL_draws 210 = .ok (.istore_n 3, 1) := by decide +kernel
theorem dL_draws_211 : decode cL_draws 211 = .ok (.goto 47, 3) := by decide +kernel
theorem dL_draws_155 : decode cL_draws 155 = .ok (.iload 5, 2) := by decide +kernel
theorem dL_draws_157 : decode cL_draws 157 = .ok (.ifCond .le 30, 3) := by decide +kernel
theorem dL_draws_160 : decode cL_draws 160 = .ok (.aload_n 0, 1) := by decide +kernel
theorem dL_draws_161 : decode cL_draws 161 = .ok (.iload_n 2, 1) := by decide +kernel
theorem dL_draws_162 : decode cL_draws 162 = .ok (.aload_n 1, 1) := by decide +kernel
theorem dL_draws_163 : decode cL_draws 163 = .ok (.bipush 9, 2) := by decide +kernel
theorem dL_draws_165 : decode cL_draws 165 = .ok (.invokestatic 103, 3) := by decide +kernel
theorem dL_draws_168 : decode cL_draws 168 = .ok (.iconst 4, 1) := by decide +kernel
theorem dL_draws_169 : decode cL_draws 169 = .ok (.isub, 1) := by decide +kernel
theorem dL_draws_170 : decode cL_draws 170 = .ok (.aload_n 1, 1) := by decide +kernel
theorem dL_draws_171 : decode cL_draws 171 = .ok (.sipush 10000, 3) := by decide +kernel
theorem dL_draws_174 : decode cL_draws 174 = .ok (.invokestatic 103, 3) := by decide +kernel
theorem dL_draws_177 : decode cL_draws 177 = .ok (.invokevirtual 19, 3) := by decide +kernel
theorem dL_draws_180 : decode cL_draws 180 = .ok (.istore_n 3, 1) := by decide +kernel
theorem dL_draws_181 : decode cL_draws 181 = .ok (.iinc 5 (-1), 3) := by decide +kernel
theorem dL_draws_184 : decode cL_draws 184 = .ok (.goto (-29), 3) := by decide +kernel
theorem dL_draws_214 : decode cL_draws 214 = .ok (.aload_n 0, 1) := by decide +kernel
theorem dL_draws_215 : decode cL_draws 215 = .ok (.iload_n 2, 1) := by decide +kernel
theorem dL_draws_216 : decode cL_draws 216 = .ok (.iconst 0, 1) := by decide +kernel
theorem dL_draws_217 : decode cL_draws 217 = .ok (.iconst 3, 1) := by decide +kernel
theorem dL_draws_218 : decode cL_draws 218 = .ok (.iload 4, 2) := by decide +kernel
theorem dL_draws_220 : decode cL_draws 220 = .ok (.iconst 3, 1) := by decide +kernel
theorem dL_draws_221 : decode cL_draws 221 = .ok (.idiv, 1) := by decide +kernel
theorem dL_draws_222 : decode cL_draws 222 = .ok (.invokevirtual 23, 3) := by decide +kernel
theorem dL_draws_225 : decode cL_draws 225 = .ok (.istore_n 3, 1) := by decide +kernel
theorem dL_draws_226 : decode cL_draws 226 = .ok (.aload_n 0, 1) := by decide +kernel
theorem dL_draws_227 : decode cL_draws 227 = .ok (.iload_n 2, 1) := by decide +kernel
theorem dL_draws_228 : decode cL_draws 228 = .ok (.bipush 20, 2) := by decide +kernel
theorem dL_draws_230 : decode cL_draws 230 = .ok (.bipush (-2), 2) := by decide +kernel
theorem dL_draws_232 : decode cL_draws 232 = .ok (.iload 4, 2) := by decide +kernel
theorem dL_draws_234 : decode cL_draws 234 = .ok (.iconst 3, 1) := by decide +kernel
theorem dL_draws_235 : decode cL_draws 235 = .ok (.idiv, 1) := by decide +kernel
theorem dL_draws_236 : decode cL_draws 236 = .ok (.invokevirtual 23, 3) := by decide +kernel
theorem dL_draws_239 : decode cL_draws 239 = .ok (.istore_n 3, 1) := by decide +kernel
theorem dL_draws_240 : decode cL_draws 240 = .ok (.aload_n 0, 1) := by decide +kernel
theorem dL_draws_241 : decode cL_draws 241 = .ok (.iload_n 2, 1) := by decide +kernel
theorem dL_draws_242 : decode cL_draws 242 = .ok (.iload 4, 2) := by decide +kernel
theorem dL_draws_244 : decode cL_draws 244 = .ok (.iconst 3, 1) := by decide +kernel
theorem dL_draws_245 : decode cL_draws 245 = .ok (.idiv, 1) := by decide +kernel
theorem dL_draws_246 : decode cL_draws 246 = .ok (.bipush 30, 2) := by decide +kernel
theorem dL_draws_248 : decode cL_draws 248 = .ok (.aload_n 1, 1) := by decide +kernel
theorem dL_draws_249 : decode cL_draws 249 = .ok (.invokestatic 13, 3) := by decide +kernel
theorem dL_draws_252 : decode cL_draws 252 = .ok (.iconst 1, 1) := by decide +kernel
theorem dL_draws_253 : decode cL_draws 253 = .ok (.iushr, 1) := by decide +kernel
theorem dL_draws_254 : decode cL_draws 254 = .ok (.invokevirtual 27, 3) := by decide +kernel
theorem dL_draws_257 : decode cL_draws 257 = .ok (.istore_n 3, 1) := by decide +kernel
theorem dL_draws_11 : decode cL_draws 11 = .ok (.ifCond .ne 15, 3) := by decide +kernel
theorem dL_draws_26 : decode cL_draws 26 = .ok (.aload_n 1, 1) := by decide +kernel
theorem dL_draws_27 : decode cL_draws 27 = .ok (.bipush 12, 2) := by decide +kernel
theorem dL_draws_29 : decode cL_draws 29 = .ok (.invokestatic 103, 3) := by decide +kernel
theorem dL_draws_14 : decode cL_draws 14 = .ok (.bipush 15, 2) := by decide +kernel
theorem dL_draws_16 : decode cL_draws 16 = .ok (.aload_n 1, 1) := by decide +kernel
theorem dL_draws_17 : decode cL_draws 17 = .ok (.bipush 16, 2) := by decide +kernel
theorem dL_draws_19 : decode cL_draws 19 = .ok (.invokestatic 103, 3) := by decide +kernel
theorem dL_draws_22 : decode cL_draws 22 = .ok (.iadd, 1) := by decide +kernel
theorem dL_draws_23 : decode cL_draws 23 = .ok (.goto 9, 3) := by decide +kernel

set_option maxHeartbeats 8000000 in
set_option maxRecDepth 100000 in
theorem c_L_draws (l : Launch) (hlf : l.stackTraces = false) (dC : Nat → ClassId) (dI : Nat → Nat → Nat) (g : Nat → ClassId) (tp_p_ hd_p_ : Nat → Nat) (tf_p_ cf_p_ : Nat → Option Nat) (htf_p_ : ∀ j, j < 8 → tf_p_ j = some (tp_p_ j)) (hcf_p_ : ∀ j, j < 8 → cf_p_ j = some (tp_p_ (8 + j))) (a_p_ : Nat → Nat) (t_p_ : Nat) (h_p_ : a_p_ 0 = t_p_) (o_p_ : OS) (a_r_ n_r_ : Nat) (r_ : Nat → Int32) (tape : Int32) (Q : (Nat → Int32) → OS → Prop) (hw : wp_L_draws o_p_ n_r_ r_ tape Q) (sz : Nat) : Met l yL_draws wqL_draws ({ frames := 8, cells := 412, slots := 2472, locals := 133 }) (va_Pc [.ref t_p_, .ref a_r_, .int tape] (PG (dC, dI) g ([(a_r_, .inl (g 0, n_r_, .inl r_))] ++ (offS a_p_ tp_p_ hd_p_ tf_p_ cf_p_ g o_p_)) sz)) (va_Qv (fun (u : (Nat → Int32) × (Nat → Nat) × OS × Unit) => Q u.1 u.2.2.1 ∧ u.2.1 0 = t_p_) (fun (u : (Nat → Int32) × (Nat → Nat) × OS × Unit) t9 => va_P (dC, dI) vwCl ([(a_r_, .inl (g 0, n_r_, .inl u.1))] ++ (offS u.2.1 tp_p_ hd_p_ tf_p_ cf_p_ g u.2.2.1)) t9.heap ∧ va_D (va_A ([(a_r_, .inl (g 0, n_r_, .inl r_))] ++ (offS a_p_ tp_p_ hd_p_ tf_p_ cf_p_ g o_p_)) sz) ([(a_r_, .inl (g 0, n_r_, .inl u.1))] ++ (offS u.2.1 tp_p_ hd_p_ tf_p_ cf_p_ g u.2.2.1))) (va_A ([(a_r_, .inl (g 0, n_r_, .inl r_))] ++ (offS a_p_ tp_p_ hd_p_ tf_p_ cf_p_ g o_p_)) sz)) 412 2472 (va_A ([(a_r_, .inl (g 0, n_r_, .inl r_))] ++ (offS a_p_ tp_p_ hd_p_ tf_p_ cf_p_ g o_p_)) sz) := by
  refine Met.ofW (cc := cL_draws) (maxL := 6) (ret := none) (by decide) rfl ?_
  intro p e s m args below meth c s₁ B hml hv
  obtain ⟨rfl, hsz, hP, hK, hD0, hG⟩ := hv
  have hx := B.exec
  have hb := B.bytes
  have hr := B.returns
  have hts := atoms_spec (ws := wqL_draws) B.pre
  have hown : s.vm.findClass RL = some m.cls := findClass_of_methodNamed B.named
  have hlocks := B.notSynchronized
  subst hsz
  have hD := hD0.self (sz := s.heap.size)
  generalize hAe : va_A ([(a_r_, .inl (g 0, n_r_, .inl r_))] ++ (offS a_p_ tp_p_ hd_p_ tf_p_ cf_p_ g o_p_)) s.heap.size = A at hD hG ⊢
  have hA : ∀ q : Nat, s.heap.size ≤ q → A q := fun q h => by rw [← hAe]; exact Or.inr h
  have hS : va_S A s.heap s.heap [] := va_S.rf
  have hrc : (headSpec wqL_draws ({ frames := 8, cells := 412, slots := 2472, locals := 133 })).room.cells = 412 := rfl
  have hrs : (headSpec wqL_draws ({ frames := 8, cells := 412, slots := 2472, locals := 133 })).room.slots = 2472 := rfl
  have hl := lv_entry ([.ref t_p_, .ref a_r_, .int tape]) (n := 6) (Nat.le_of_ble_eq_true rfl)
  rw [lg_entry_eq]
  generalize (lg_sl ([.ref t_p_, .ref a_r_, .int tape]) ++ List.replicate (6 - (lg_sl ([.ref t_p_, .ref a_r_, .int tape])).length) Slot.unset).toArray = ls at hl ⊢
  have hl : lv_has ls 6 [(0, .ref t_p_), (1, .ref a_r_), (2, .int tape)] := hl
  unfold wp_L_draws at hw
  have hk107 := hts (Jvm.Cond.constant RL 107 100000) (aw_l aw_3_118)
  refine lv_aload_n hx hb dL_draws_0 rfl (lv_at hl 0 rfl) ?_
  refine lv_iload_n hx hb dL_draws_1 rfl (lv_at hl 2 rfl) ?_
  obtain ⟨hPs, hDs⟩ := seg_call (segs := [[(a_r_, .inl (g 0, n_r_, .inl r_))], offS a_p_ tp_p_ hd_p_ tf_p_ cf_p_ g o_p_]) [[(a_r_, .inl (g 0, n_r_, .inl r_))]] [offS a_p_ tp_p_ hd_p_ tf_p_ cf_p_ g o_p_] 2 [0, 1] rfl rfl (by decide) hP hD
  have hPc : va_P (dC, dI) vwCl (offS a_p_ tp_p_ hd_p_ tf_p_ cf_p_ g o_p_) s.heap := P_r hPs
  have hDc : va_D A (offS a_p_ tp_p_ hd_p_ tf_p_ cf_p_ g o_p_) := D_r hDs
  have hFc : ∀ q, va_A (offS a_p_ tp_p_ hd_p_ tf_p_ cf_p_ g o_p_) s.heap.size q → A q := A_all hDc hA hS.1
  refine vx_calli (vx_runV (As := [.int tape]) (rest := []) ⟨hx, hb, hml, hown, hts⟩ (p_clear l hlf dC dI g tp_p_ hd_p_ tf_p_ cf_p_ htf_p_ hcf_p_ a_p_ t_p_ h_p_ o_p_ tape (hw := hw) (sz := s.heap.size)) (cwV 1 hts (gqV aw_2_225 aw_2_226 aw_2_227 aw_1_1 aw_2_228) rfl rfl rfl (by decide +kernel) ⟨Nat.le_of_ble_eq_true rfl, Nat.le_of_ble_eq_true rfl⟩) ⟨PG_blind, off_recv h_p_ hK hPc, PG_call hK hG hS hPc hDc hFc⟩ rfl rfl hl.1 rfl (lv_room (Nat.le_of_ble_eq_true rfl)) dL_draws_2 ⟨by rw [hrc]; omega, by rw [hrs]; omega⟩) hS (fun q _ h => hFc q h) hFc (fun q _ h => hFc q h) (fun E ce q9 ux t H1 locs1 ht hvm hp9 hB9 hz hk hS9 hce hcv hcl => ?_) (fun r_1 u_1 t_1 H_1 L_1 ht_1 hvm_1 hw_1 hB_1 hz_1 hk_1 hS => ?_)
  · exact (hB9.1.1).elim
  obtain ⟨ad_2, o_3⟩ := u_1
  obtain ⟨hw, had_2⟩ := hw_1
  rw [ht_1] at hB_1
  obtain ⟨hP1, hD1⟩ := hB_1
  obtain ⟨hP, hD⟩ := join_r hPs hDs hk_1 hFc hP1 hD1
  obtain ⟨hP, hD⟩ := seg_join [[(a_r_, .inl (g 0, n_r_, .inl r_))]] [offS ad_2 tp_p_ hd_p_ tf_p_ cf_p_ g o_3] [[(a_r_, .inl (g 0, n_r_, .inl r_))], offS ad_2 tp_p_ hd_p_ tf_p_ cf_p_ g o_3] 2 [0, 1] rfl rfl (by decide) hP hD
  have hP : va_P (dC, dI) vwCl ([(a_r_, .inl (g 0, n_r_, .inl r_))] ++ (offS ad_2 tp_p_ hd_p_ tf_p_ cf_p_ g o_3)) H_1 := hP
  have hD : va_D A ([(a_r_, .inl (g 0, n_r_, .inl r_))] ++ (offS ad_2 tp_p_ hd_p_ tf_p_ cf_p_ g o_3)) := hD
  refine W.widen (k := 1) (n := 6) (by omega) (by omega) ?_
  refine lv_istore_n (lv' := [(3, .int r_1), (0, .ref t_p_), (1, .ref a_r_), (2, .int tape)]) hx hb dL_draws_5 rfl hl (by decide) rfl (fun ls hl => ?_)
  refine lv_aload_n hx hb dL_draws_6 rfl (lv_at hl 2 rfl) ?_
  refine lv_iconst (v := 3) hx hb dL_draws_7 (by decide) ?_
  obtain ⟨hPs, hDs⟩ := seg_call (segs := [[(a_r_, .inl (g 0, n_r_, .inl r_))], offS ad_2 tp_p_ hd_p_ tf_p_ cf_p_ g o_3]) [offS ad_2 tp_p_ hd_p_ tf_p_ cf_p_ g o_3] [[(a_r_, .inl (g 0, n_r_, .inl r_))]] 2 [1, 0] rfl rfl (by decide) hP hD
  have hPc : va_P (dC, dI) vwCl [(a_r_, .inl (g 0, n_r_, .inl r_))] H_1 := P_r hPs
  have hDc : va_D A [(a_r_, .inl (g 0, n_r_, .inl r_))] := D_r hDs
  have hFc : ∀ q, va_A [(a_r_, .inl (g 0, n_r_, .inl r_))] H_1.size q → A q := A_all hDc hA hS.1
  refine va_calli (va_runS (As := [.ref a_r_, .int 3]) (rest := []) ⟨hx, hb, hml, hown, hts⟩ (c_L_draw l hlf dC dI g (a_r_ := a_r_) (n_r_ := n_r_) (r_ := r_) (many := 3) (hw := hw) (sz := H_1.size)) (va_cwS 2 hts (gqS aw_2_215 aw_2_216 aw_1_0 aw_2_217) rfl rfl rfl (by decide +kernel) ⟨Nat.le_of_ble_eq_true rfl, Nat.le_of_ble_eq_true rfl⟩) ⟨PG_blind, PG_call hK hG hS hPc hDc hFc⟩ rfl rfl hl.1 rfl (lv_room (Nat.le_of_ble_eq_true rfl)) dL_draws_8 ⟨by rw [hrc]; omega, by rw [hrs]; omega⟩) hS (fun q _ h => hFc q h) hFc (fun r_4 u_4 t_4 H_4 L_4 ht_4 hvm_4 hw_4 hB_4 hz_4 hk_4 hS => ?_)
  obtain ⟨r__5, u_4⟩ := u_4
  have hw := hw_4
  rw [ht_4] at hB_4
  obtain ⟨hP1, hD1⟩ := hB_4
  obtain ⟨hP, hD⟩ := join_r hPs hDs hk_4 hFc hP1 hD1
  obtain ⟨hP, hD⟩ := seg_join [offS ad_2 tp_p_ hd_p_ tf_p_ cf_p_ g o_3] [[(a_r_, .inl (g 0, n_r_, .inl r__5))]] [[(a_r_, .inl (g 0, n_r_, .inl r__5))], offS ad_2 tp_p_ hd_p_ tf_p_ cf_p_ g o_3] 2 [1, 0] rfl rfl (by decide) hP hD
  have hP : va_P (dC, dI) vwCl ([(a_r_, .inl (g 0, n_r_, .inl r__5))] ++ (offS ad_2 tp_p_ hd_p_ tf_p_ cf_p_ g o_3)) H_4 := hP
  have hD : va_D A ([(a_r_, .inl (g 0, n_r_, .inl r__5))] ++ (offS ad_2 tp_p_ hd_p_ tf_p_ cf_p_ g o_3)) := hD
  refine W.widen (k := 1) (n := 6) (by omega) (by omega) ?_
  refine W_abs (fun QM hQM => ?_)
  have JN32 : ∀ (sk0_6 : Int32) (r__7 : Nat → Int32) (H : Heap) (locs : List Loc), (wj_L_draws_32 n_r_ tape Q o_3) sk0_6 r__7 → va_P (dC, dI) vwCl ([(a_r_, .inl (g 0, n_r_, .inl r__7))] ++ (offS ad_2 tp_p_ hd_p_ tf_p_ cf_p_ g o_3)) H → va_D A ([(a_r_, .inl (g 0, n_r_, .inl r__7))] ++ (offS ad_2 tp_p_ hd_p_ tf_p_ cf_p_ g o_3)) → va_S A s.heap H locs → ∀ (ls : Array Slot), lv_has ls 6 [(0, .ref t_p_), (1, .ref a_r_), (2, .int tape)] → W p l e (headSpec wqL_draws ({ frames := 8, cells := 412, slots := 2472, locals := 133 })).room s m ([.ref t_p_, .ref a_r_, .int tape] : List Value).toArray below meth c H locs 1 6 QM (F0 m 32 ls [.int sk0_6]) := by
    intro sk0_6 r__7 H locs hw hP hD hS ls hl
    refine lv_istore (lv' := [(4, .int sk0_6), (0, .ref t_p_), (1, .ref a_r_), (2, .int tape)]) hx hb dL_draws_32 hl (by decide) rfl (fun ls hl => ?_)
    refine lv_aload_n hx hb dL_draws_34 rfl (lv_at hl 2 rfl) ?_
    refine lv_iconst (v := 5) hx hb dL_draws_35 (by decide) ?_
    obtain ⟨hPs, hDs⟩ := seg_call (segs := [[(a_r_, .inl (g 0, n_r_, .inl r__7))], offS ad_2 tp_p_ hd_p_ tf_p_ cf_p_ g o_3]) [offS ad_2 tp_p_ hd_p_ tf_p_ cf_p_ g o_3] [[(a_r_, .inl (g 0, n_r_, .inl r__7))]] 2 [1, 0] rfl rfl (by decide) hP hD
    have hPc : va_P (dC, dI) vwCl [(a_r_, .inl (g 0, n_r_, .inl r__7))] H := P_r hPs
    have hDc : va_D A [(a_r_, .inl (g 0, n_r_, .inl r__7))] := D_r hDs
    have hFc : ∀ q, va_A [(a_r_, .inl (g 0, n_r_, .inl r__7))] H.size q → A q := A_all hDc hA hS.1
    refine va_calli (va_runS (As := [.ref a_r_, .int 5]) (rest := []) ⟨hx, hb, hml, hown, hts⟩ (c_L_draw l hlf dC dI g (a_r_ := a_r_) (n_r_ := n_r_) (r_ := r__7) (many := 5) (hw := hw) (sz := H.size)) (va_cwS 2 hts (gqS aw_2_215 aw_2_216 aw_1_0 aw_2_217) rfl rfl rfl (by decide +kernel) ⟨Nat.le_of_ble_eq_true rfl, Nat.le_of_ble_eq_true rfl⟩) ⟨PG_blind, PG_call hK hG hS hPc hDc hFc⟩ rfl rfl hl.1 rfl (lv_room (Nat.le_of_ble_eq_true rfl)) dL_draws_36 ⟨by rw [hrc]; omega, by rw [hrs]; omega⟩) hS (fun q _ h => hFc q h) hFc (fun r_8 u_8 t_8 H_8 L_8 ht_8 hvm_8 hw_8 hB_8 hz_8 hk_8 hS => ?_)
    obtain ⟨r__9, u_8⟩ := u_8
    have hw := hw_8
    rw [ht_8] at hB_8
    obtain ⟨hP1, hD1⟩ := hB_8
    obtain ⟨hP, hD⟩ := join_r hPs hDs hk_8 hFc hP1 hD1
    obtain ⟨hP, hD⟩ := seg_join [offS ad_2 tp_p_ hd_p_ tf_p_ cf_p_ g o_3] [[(a_r_, .inl (g 0, n_r_, .inl r__9))]] [[(a_r_, .inl (g 0, n_r_, .inl r__9))], offS ad_2 tp_p_ hd_p_ tf_p_ cf_p_ g o_3] 2 [1, 0] rfl rfl (by decide) hP hD
    have hP : va_P (dC, dI) vwCl ([(a_r_, .inl (g 0, n_r_, .inl r__9))] ++ (offS ad_2 tp_p_ hd_p_ tf_p_ cf_p_ g o_3)) H_8 := hP
    have hD : va_D A ([(a_r_, .inl (g 0, n_r_, .inl r__9))] ++ (offS ad_2 tp_p_ hd_p_ tf_p_ cf_p_ g o_3)) := hD
    refine W.widen (k := 1) (n := 6) (by omega) (by omega) ?_
    rcases sw_0_3 r_8 with e_sw | e_sw | e_sw | e_sw | c_sw
    · have hw := hw.1 e_sw
      refine W.eq (g2 := F0 m 39 ls (.int 0 :: [])) (by rw [e_sw]) ?_
      refine lv_tableIn (tgt := 68) hx hb dL_draws_39 (by decide) (by decide) rfl (by decide) ?_
      refine lv_aload_n hx hb dL_draws_68 rfl (lv_at hl 1 rfl) ?_
      refine lv_iload_n hx hb dL_draws_69 rfl (lv_at hl 3 rfl) ?_
      refine lv_aload_n hx hb dL_draws_70 rfl (lv_at hl 2 rfl) ?_
      refine lv_sipush (v := 199) hx hb dL_draws_71 (by decide) ?_
      obtain ⟨hPs, hDs⟩ := seg_call (segs := [[(a_r_, .inl (g 0, n_r_, .inl r__9))], offS ad_2 tp_p_ hd_p_ tf_p_ cf_p_ g o_3]) [offS ad_2 tp_p_ hd_p_ tf_p_ cf_p_ g o_3] [[(a_r_, .inl (g 0, n_r_, .inl r__9))]] 2 [1, 0] rfl rfl (by decide) hP hD
      have hPc : va_P (dC, dI) vwCl [(a_r_, .inl (g 0, n_r_, .inl r__9))] H_8 := P_r hPs
      have hDc : va_D A [(a_r_, .inl (g 0, n_r_, .inl r__9))] := D_r hDs
      have hFc : ∀ q, va_A [(a_r_, .inl (g 0, n_r_, .inl r__9))] H_8.size q → A q := A_all hDc hA hS.1
      refine va_calli (va_runS (As := [.ref a_r_, .int 199]) (rest := [.int tape, .ref t_p_]) ⟨hx, hb, hml, hown, hts⟩ (c_L_draw l hlf dC dI g (a_r_ := a_r_) (n_r_ := n_r_) (r_ := r__9) (many := 199) (hw := hw) (sz := H_8.size)) (va_cwS 2 hts (gqS aw_2_215 aw_2_216 aw_1_0 aw_2_217) rfl rfl rfl (by decide +kernel) ⟨Nat.le_of_ble_eq_true rfl, Nat.le_of_ble_eq_true rfl⟩) ⟨PG_blind, PG_call hK hG hS hPc hDc hFc⟩ rfl rfl hl.1 rfl (lv_room (Nat.le_of_ble_eq_true rfl)) dL_draws_74 ⟨by rw [hrc]; omega, by rw [hrs]; omega⟩) hS (fun q _ h => hFc q h) hFc (fun r_10 u_10 t_10 H_10 L_10 ht_10 hvm_10 hw_10 hB_10 hz_10 hk_10 hS => ?_)
      obtain ⟨r__11, u_10⟩ := u_10
      have hw := hw_10
      rw [ht_10] at hB_10
      obtain ⟨hP1, hD1⟩ := hB_10
      obtain ⟨hP, hD⟩ := join_r hPs hDs hk_10 hFc hP1 hD1
      obtain ⟨hP, hD⟩ := seg_join [offS ad_2 tp_p_ hd_p_ tf_p_ cf_p_ g o_3] [[(a_r_, .inl (g 0, n_r_, .inl r__11))]] [[(a_r_, .inl (g 0, n_r_, .inl r__11))], offS ad_2 tp_p_ hd_p_ tf_p_ cf_p_ g o_3] 2 [1, 0] rfl rfl (by decide) hP hD
      have hP : va_P (dC, dI) vwCl ([(a_r_, .inl (g 0, n_r_, .inl r__11))] ++ (offS ad_2 tp_p_ hd_p_ tf_p_ cf_p_ g o_3)) H_10 := hP
      have hD : va_D A ([(a_r_, .inl (g 0, n_r_, .inl r__11))] ++ (offS ad_2 tp_p_ hd_p_ tf_p_ cf_p_ g o_3)) := hD
      refine W.widen (k := 1) (n := 6) (by omega) (by omega) ?_
      refine lv_bipush (v := 99) hx hb dL_draws_77 (by decide) ?_
      refine lv_isub hx hb dL_draws_79 ?_
      refine lv_topi (fun x_12 ex_12 => ?_)
      have hw := hw x_12 ex_12
      refine lv_aload_n hx hb dL_draws_80 rfl (lv_at hl 2 rfl) ?_
      refine lv_bipush (v := 31) hx hb dL_draws_81 (by decide) ?_
      obtain ⟨hPs, hDs⟩ := seg_call (segs := [[(a_r_, .inl (g 0, n_r_, .inl r__11))], offS ad_2 tp_p_ hd_p_ tf_p_ cf_p_ g o_3]) [offS ad_2 tp_p_ hd_p_ tf_p_ cf_p_ g o_3] [[(a_r_, .inl (g 0, n_r_, .inl r__11))]] 2 [1, 0] rfl rfl (by decide) hP hD
      have hPc : va_P (dC, dI) vwCl [(a_r_, .inl (g 0, n_r_, .inl r__11))] H_10 := P_r hPs
      have hDc : va_D A [(a_r_, .inl (g 0, n_r_, .inl r__11))] := D_r hDs
      have hFc : ∀ q, va_A [(a_r_, .inl (g 0, n_r_, .inl r__11))] H_10.size q → A q := A_all hDc hA hS.1
      refine va_calli (va_runS (As := [.ref a_r_, .int 31]) (rest := [.int x_12, .int tape, .ref t_p_]) ⟨hx, hb, hml, hown, hts⟩ (c_L_draw l hlf dC dI g (a_r_ := a_r_) (n_r_ := n_r_) (r_ := r__11) (many := 31) (hw := hw) (sz := H_10.size)) (va_cwS 2 hts (gqS aw_2_215 aw_2_216 aw_1_0 aw_2_217) rfl rfl rfl (by decide +kernel) ⟨Nat.le_of_ble_eq_true rfl, Nat.le_of_ble_eq_true rfl⟩) ⟨PG_blind, PG_call hK hG hS hPc hDc hFc⟩ rfl rfl hl.1 rfl (lv_room (Nat.le_of_ble_eq_true rfl)) dL_draws_83 ⟨by rw [hrc]; omega, by rw [hrs]; omega⟩) hS (fun q _ h => hFc q h) hFc (fun r_13 u_13 t_13 H_13 L_13 ht_13 hvm_13 hw_13 hB_13 hz_13 hk_13 hS => ?_)
      obtain ⟨r__14, u_13⟩ := u_13
      have hw := hw_13
      rw [ht_13] at hB_13
      obtain ⟨hP1, hD1⟩ := hB_13
      obtain ⟨hP, hD⟩ := join_r hPs hDs hk_13 hFc hP1 hD1
      obtain ⟨hP, hD⟩ := seg_join [offS ad_2 tp_p_ hd_p_ tf_p_ cf_p_ g o_3] [[(a_r_, .inl (g 0, n_r_, .inl r__14))]] [[(a_r_, .inl (g 0, n_r_, .inl r__14))], offS ad_2 tp_p_ hd_p_ tf_p_ cf_p_ g o_3] 2 [1, 0] rfl rfl (by decide) hP hD
      have hP : va_P (dC, dI) vwCl ([(a_r_, .inl (g 0, n_r_, .inl r__14))] ++ (offS ad_2 tp_p_ hd_p_ tf_p_ cf_p_ g o_3)) H_13 := hP
      have hD : va_D A ([(a_r_, .inl (g 0, n_r_, .inl r__14))] ++ (offS ad_2 tp_p_ hd_p_ tf_p_ cf_p_ g o_3)) := hD
      refine W.widen (k := 1) (n := 6) (by omega) (by omega) ?_
      refine lv_bipush (v := 15) hx hb dL_draws_86 (by decide) ?_
      refine lv_isub hx hb dL_draws_88 ?_
      refine lv_topi (fun x_15 ex_15 => ?_)
      have hw := hw x_15 ex_15
      refine lv_iload hx hb dL_draws_89 (lv_at hl 0 rfl) ?_
      obtain ⟨hPs, hDs⟩ := seg_call (segs := [[(a_r_, .inl (g 0, n_r_, .inl r__14))], offS ad_2 tp_p_ hd_p_ tf_p_ cf_p_ g o_3]) [[(a_r_, .inl (g 0, n_r_, .inl r__14))]] [offS ad_2 tp_p_ hd_p_ tf_p_ cf_p_ g o_3] 2 [0, 1] rfl rfl (by decide) hP hD
      have hPc : va_P (dC, dI) vwCl (offS ad_2 tp_p_ hd_p_ tf_p_ cf_p_ g o_3) H_13 := P_r hPs
      have hDc : va_D A (offS ad_2 tp_p_ hd_p_ tf_p_ cf_p_ g o_3) := D_r hDs
      have hFc : ∀ q, va_A (offS ad_2 tp_p_ hd_p_ tf_p_ cf_p_ g o_3) H_13.size q → A q := A_all hDc hA hS.1
      refine vx_calli (vx_runV (As := [.int tape, .int x_12, .int x_15, .int sk0_6]) (rest := []) ⟨hx, hb, hml, hown, hts⟩ (p_fill l hlf dC dI g tp_p_ hd_p_ tf_p_ cf_p_ htf_p_ hcf_p_ ad_2 t_p_ had_2 o_3 tape x_12 x_15 sk0_6 (hw := hw) (sz := H_13.size)) (cwV 4 hts (gqV aw_3_66 aw_3_67 aw_3_68 aw_1_1 aw_3_69) rfl rfl rfl (by decide +kernel) ⟨Nat.le_of_ble_eq_true rfl, Nat.le_of_ble_eq_true rfl⟩) ⟨PG_blind, off_recv had_2 hK hPc, PG_call hK hG hS hPc hDc hFc⟩ rfl rfl hl.1 rfl (lv_room (Nat.le_of_ble_eq_true rfl)) dL_draws_91 ⟨by rw [hrc]; omega, by rw [hrs]; omega⟩) hS (fun q _ h => hFc q h) hFc (fun q _ h => hFc q h) (fun E ce q9 ux t H1 locs1 ht hvm hp9 hB9 hz hk hS9 hce hcv hcl => ?_) (fun r_16 u_16 t_16 H_16 L_16 ht_16 hvm_16 hw_16 hB_16 hz_16 hk_16 hS => ?_)
      · exact (hB9.1.1).elim
      obtain ⟨ad_17, o_18⟩ := u_16
      obtain ⟨hw, had_17⟩ := hw_16
      rw [ht_16] at hB_16
      obtain ⟨hP1, hD1⟩ := hB_16
      obtain ⟨hP, hD⟩ := join_r hPs hDs hk_16 hFc hP1 hD1
      obtain ⟨hP, hD⟩ := seg_join [[(a_r_, .inl (g 0, n_r_, .inl r__14))]] [offS ad_17 tp_p_ hd_p_ tf_p_ cf_p_ g o_18] [[(a_r_, .inl (g 0, n_r_, .inl r__14))], offS ad_17 tp_p_ hd_p_ tf_p_ cf_p_ g o_18] 2 [0, 1] rfl rfl (by decide) hP hD
      have hP : va_P (dC, dI) vwCl ([(a_r_, .inl (g 0, n_r_, .inl r__14))] ++ (offS ad_17 tp_p_ hd_p_ tf_p_ cf_p_ g o_18)) H_16 := hP
      have hD : va_D A ([(a_r_, .inl (g 0, n_r_, .inl r__14))] ++ (offS ad_17 tp_p_ hd_p_ tf_p_ cf_p_ g o_18)) := hD
      refine W.widen (k := 7) (n := 42) (by omega) (by omega) ?_
      refine lv_istore_n (lv' := [(3, .int r_16), (4, .int sk0_6), (0, .ref t_p_), (1, .ref a_r_), (2, .int tape)]) hx hb dL_draws_94 rfl hl (by decide) rfl (fun ls hl => ?_)
      refine lv_goto (tgt := 258) hx hb dL_draws_95 (by decide) ?_
      refine W.widen (k := 412) (n := 2472) (by omega) (by omega) ?_
      subst hQM
      exact W.vret hx hb hr (fun t ht hW => ⟨⟨(r__14, ad_17, o_18, ()), rfl, ⟨hw, had_17⟩, ⟨P_at ht hP, hD⟩⟩, hS.F ht⟩) hS.2.2 dL_draws_258
    · have hw := hw.2.1 e_sw
      refine W.eq (g2 := F0 m 39 ls (.int 1 :: [])) (by rw [e_sw]) ?_
      refine lv_tableIn (tgt := 98) hx hb dL_draws_39 (by decide) (by decide) rfl (by decide) ?_
      refine lv_aload_n hx hb dL_draws_98 rfl (lv_at hl 1 rfl) ?_
      refine lv_iload_n hx hb dL_draws_99 rfl (lv_at hl 3 rfl) ?_
      refine lv_iload hx hb dL_draws_100 (lv_at hl 0 rfl) ?_
      refine lv_iconst (v := 1) hx hb dL_draws_102 (by decide) ?_
      refine lv_aload_n hx hb dL_draws_103 rfl (lv_at hl 2 rfl) ?_
      refine lv_bipush (v := 9) hx hb dL_draws_104 (by decide) ?_
      obtain ⟨hPs, hDs⟩ := seg_call (segs := [[(a_r_, .inl (g 0, n_r_, .inl r__9))], offS ad_2 tp_p_ hd_p_ tf_p_ cf_p_ g o_3]) [offS ad_2 tp_p_ hd_p_ tf_p_ cf_p_ g o_3] [[(a_r_, .inl (g 0, n_r_, .inl r__9))]] 2 [1, 0] rfl rfl (by decide) hP hD
      have hPc : va_P (dC, dI) vwCl [(a_r_, .inl (g 0, n_r_, .inl r__9))] H_8 := P_r hPs
      have hDc : va_D A [(a_r_, .inl (g 0, n_r_, .inl r__9))] := D_r hDs
      have hFc : ∀ q, va_A [(a_r_, .inl (g 0, n_r_, .inl r__9))] H_8.size q → A q := A_all hDc hA hS.1
      refine va_calli (va_runS (As := [.ref a_r_, .int 9]) (rest := [.int 1, .int sk0_6, .int tape, .ref t_p_]) ⟨hx, hb, hml, hown, hts⟩ (c_L_draw l hlf dC dI g (a_r_ := a_r_) (n_r_ := n_r_) (r_ := r__9) (many := 9) (hw := hw) (sz := H_8.size)) (va_cwS 2 hts (gqS aw_2_215 aw_2_216 aw_1_0 aw_2_217) rfl rfl rfl (by decide +kernel) ⟨Nat.le_of_ble_eq_true rfl, Nat.le_of_ble_eq_true rfl⟩) ⟨PG_blind, PG_call hK hG hS hPc hDc hFc⟩ rfl rfl hl.1 rfl (lv_room (Nat.le_of_ble_eq_true rfl)) dL_draws_106 ⟨by rw [hrc]; omega, by rw [hrs]; omega⟩) hS (fun q _ h => hFc q h) hFc (fun r_19 u_19 t_19 H_19 L_19 ht_19 hvm_19 hw_19 hB_19 hz_19 hk_19 hS => ?_)
      obtain ⟨r__20, u_19⟩ := u_19
      have hw := hw_19
      rw [ht_19] at hB_19
      obtain ⟨hP1, hD1⟩ := hB_19
      obtain ⟨hP, hD⟩ := join_r hPs hDs hk_19 hFc hP1 hD1
      obtain ⟨hP, hD⟩ := seg_join [offS ad_2 tp_p_ hd_p_ tf_p_ cf_p_ g o_3] [[(a_r_, .inl (g 0, n_r_, .inl r__20))]] [[(a_r_, .inl (g 0, n_r_, .inl r__20))], offS ad_2 tp_p_ hd_p_ tf_p_ cf_p_ g o_3] 2 [1, 0] rfl rfl (by decide) hP hD
      have hP : va_P (dC, dI) vwCl ([(a_r_, .inl (g 0, n_r_, .inl r__20))] ++ (offS ad_2 tp_p_ hd_p_ tf_p_ cf_p_ g o_3)) H_19 := hP
      have hD : va_D A ([(a_r_, .inl (g 0, n_r_, .inl r__20))] ++ (offS ad_2 tp_p_ hd_p_ tf_p_ cf_p_ g o_3)) := hD
      refine W.widen (k := 1) (n := 6) (by omega) (by omega) ?_
      refine lv_iadd hx hb dL_draws_109 ?_
      refine lv_topi (fun x_21 ex_21 => ?_)
      have hw := hw x_21 ex_21
      refine lv_aload_n hx hb dL_draws_110 rfl (lv_at hl 2 rfl) ?_
      refine lv_ldc hx hb hown hk107 dL_draws_111 ?_
      obtain ⟨hPs, hDs⟩ := seg_call (segs := [[(a_r_, .inl (g 0, n_r_, .inl r__20))], offS ad_2 tp_p_ hd_p_ tf_p_ cf_p_ g o_3]) [offS ad_2 tp_p_ hd_p_ tf_p_ cf_p_ g o_3] [[(a_r_, .inl (g 0, n_r_, .inl r__20))]] 2 [1, 0] rfl rfl (by decide) hP hD
      have hPc : va_P (dC, dI) vwCl [(a_r_, .inl (g 0, n_r_, .inl r__20))] H_19 := P_r hPs
      have hDc : va_D A [(a_r_, .inl (g 0, n_r_, .inl r__20))] := D_r hDs
      have hFc : ∀ q, va_A [(a_r_, .inl (g 0, n_r_, .inl r__20))] H_19.size q → A q := A_all hDc hA hS.1
      refine va_calli (va_runS (As := [.ref a_r_, .int 100000]) (rest := [.int x_21, .int sk0_6, .int tape, .ref t_p_]) ⟨hx, hb, hml, hown, hts⟩ (c_L_draw l hlf dC dI g (a_r_ := a_r_) (n_r_ := n_r_) (r_ := r__20) (many := 100000) (hw := hw) (sz := H_19.size)) (va_cwS 2 hts (gqS aw_2_215 aw_2_216 aw_1_0 aw_2_217) rfl rfl rfl (by decide +kernel) ⟨Nat.le_of_ble_eq_true rfl, Nat.le_of_ble_eq_true rfl⟩) ⟨PG_blind, PG_call hK hG hS hPc hDc hFc⟩ rfl rfl hl.1 rfl (lv_room (Nat.le_of_ble_eq_true rfl)) dL_draws_113 ⟨by rw [hrc]; omega, by rw [hrs]; omega⟩) hS (fun q _ h => hFc q h) hFc (fun r_22 u_22 t_22 H_22 L_22 ht_22 hvm_22 hw_22 hB_22 hz_22 hk_22 hS => ?_)
      obtain ⟨r__23, u_22⟩ := u_22
      have hw := hw_22
      rw [ht_22] at hB_22
      obtain ⟨hP1, hD1⟩ := hB_22
      obtain ⟨hP, hD⟩ := join_r hPs hDs hk_22 hFc hP1 hD1
      obtain ⟨hP, hD⟩ := seg_join [offS ad_2 tp_p_ hd_p_ tf_p_ cf_p_ g o_3] [[(a_r_, .inl (g 0, n_r_, .inl r__23))]] [[(a_r_, .inl (g 0, n_r_, .inl r__23))], offS ad_2 tp_p_ hd_p_ tf_p_ cf_p_ g o_3] 2 [1, 0] rfl rfl (by decide) hP hD
      have hP : va_P (dC, dI) vwCl ([(a_r_, .inl (g 0, n_r_, .inl r__23))] ++ (offS ad_2 tp_p_ hd_p_ tf_p_ cf_p_ g o_3)) H_22 := hP
      have hD : va_D A ([(a_r_, .inl (g 0, n_r_, .inl r__23))] ++ (offS ad_2 tp_p_ hd_p_ tf_p_ cf_p_ g o_3)) := hD
      refine W.widen (k := 1) (n := 6) (by omega) (by omega) ?_
      obtain ⟨hPs, hDs⟩ := seg_call (segs := [[(a_r_, .inl (g 0, n_r_, .inl r__23))], offS ad_2 tp_p_ hd_p_ tf_p_ cf_p_ g o_3]) [[(a_r_, .inl (g 0, n_r_, .inl r__23))]] [offS ad_2 tp_p_ hd_p_ tf_p_ cf_p_ g o_3] 2 [0, 1] rfl rfl (by decide) hP hD
      have hPc : va_P (dC, dI) vwCl (offS ad_2 tp_p_ hd_p_ tf_p_ cf_p_ g o_3) H_22 := P_r hPs
      have hDc : va_D A (offS ad_2 tp_p_ hd_p_ tf_p_ cf_p_ g o_3) := D_r hDs
      have hFc : ∀ q, va_A (offS ad_2 tp_p_ hd_p_ tf_p_ cf_p_ g o_3) H_22.size q → A q := A_all hDc hA hS.1
      refine vx_calli (vx_runV (As := [.int tape, .int sk0_6, .int x_21, .int r_22]) (rest := []) ⟨hx, hb, hml, hown, hts⟩ (p_scatter l hlf dC dI g tp_p_ hd_p_ tf_p_ cf_p_ htf_p_ hcf_p_ ad_2 t_p_ had_2 o_3 tape sk0_6 x_21 r_22 (hw := hw) (sz := H_22.size)) (cwV 4 hts (gqV aw_3_119 aw_3_120 aw_3_121 aw_1_1 aw_3_122) rfl rfl rfl (by decide +kernel) ⟨Nat.le_of_ble_eq_true rfl, Nat.le_of_ble_eq_true rfl⟩) ⟨PG_blind, off_recv had_2 hK hPc, PG_call hK hG hS hPc hDc hFc⟩ rfl rfl hl.1 rfl (lv_room (Nat.le_of_ble_eq_true rfl)) dL_draws_116 ⟨by rw [hrc]; omega, by rw [hrs]; omega⟩) hS (fun q _ h => hFc q h) hFc (fun q _ h => hFc q h) (fun E ce q9 ux t H1 locs1 ht hvm hp9 hB9 hz hk hS9 hce hcv hcl => ?_) (fun r_24 u_24 t_24 H_24 L_24 ht_24 hvm_24 hw_24 hB_24 hz_24 hk_24 hS => ?_)
      · exact (hB9.1.1).elim
      obtain ⟨ad_25, o_26⟩ := u_24
      obtain ⟨hw, had_25⟩ := hw_24
      rw [ht_24] at hB_24
      obtain ⟨hP1, hD1⟩ := hB_24
      obtain ⟨hP, hD⟩ := join_r hPs hDs hk_24 hFc hP1 hD1
      obtain ⟨hP, hD⟩ := seg_join [[(a_r_, .inl (g 0, n_r_, .inl r__23))]] [offS ad_25 tp_p_ hd_p_ tf_p_ cf_p_ g o_26] [[(a_r_, .inl (g 0, n_r_, .inl r__23))], offS ad_25 tp_p_ hd_p_ tf_p_ cf_p_ g o_26] 2 [0, 1] rfl rfl (by decide) hP hD
      have hP : va_P (dC, dI) vwCl ([(a_r_, .inl (g 0, n_r_, .inl r__23))] ++ (offS ad_25 tp_p_ hd_p_ tf_p_ cf_p_ g o_26)) H_24 := hP
      have hD : va_D A ([(a_r_, .inl (g 0, n_r_, .inl r__23))] ++ (offS ad_25 tp_p_ hd_p_ tf_p_ cf_p_ g o_26)) := hD
      refine W.widen (k := 5) (n := 30) (by omega) (by omega) ?_
      refine lv_istore_n (lv' := [(3, .int r_24), (4, .int sk0_6), (0, .ref t_p_), (1, .ref a_r_), (2, .int tape)]) hx hb dL_draws_119 rfl hl (by decide) rfl (fun ls hl => ?_)
      refine lv_goto (tgt := 258) hx hb dL_draws_120 (by decide) ?_
      refine W.widen (k := 412) (n := 2472) (by omega) (by omega) ?_
      subst hQM
      exact W.vret hx hb hr (fun t ht hW => ⟨⟨(r__23, ad_25, o_26, ()), rfl, ⟨hw, had_25⟩, ⟨P_at ht hP, hD⟩⟩, hS.F ht⟩) hS.2.2 dL_draws_258
    · have hw := hw.2.2.1 e_sw
      refine W.eq (g2 := F0 m 39 ls (.int 2 :: [])) (by rw [e_sw]) ?_
      refine lv_tableIn (tgt := 123) hx hb dL_draws_39 (by decide) (by decide) rfl (by decide) ?_
      refine lv_aload_n hx hb dL_draws_123 rfl (lv_at hl 1 rfl) ?_
      refine lv_iload_n hx hb dL_draws_124 rfl (lv_at hl 3 rfl) ?_
      refine lv_iload hx hb dL_draws_125 (lv_at hl 0 rfl) ?_
      refine lv_iconst (v := 1) hx hb dL_draws_127 (by decide) ?_
      refine lv_aload_n hx hb dL_draws_128 rfl (lv_at hl 2 rfl) ?_
      refine lv_sipush (v := 999) hx hb dL_draws_129 (by decide) ?_
      obtain ⟨hPs, hDs⟩ := seg_call (segs := [[(a_r_, .inl (g 0, n_r_, .inl r__9))], offS ad_2 tp_p_ hd_p_ tf_p_ cf_p_ g o_3]) [offS ad_2 tp_p_ hd_p_ tf_p_ cf_p_ g o_3] [[(a_r_, .inl (g 0, n_r_, .inl r__9))]] 2 [1, 0] rfl rfl (by decide) hP hD
      have hPc : va_P (dC, dI) vwCl [(a_r_, .inl (g 0, n_r_, .inl r__9))] H_8 := P_r hPs
      have hDc : va_D A [(a_r_, .inl (g 0, n_r_, .inl r__9))] := D_r hDs
      have hFc : ∀ q, va_A [(a_r_, .inl (g 0, n_r_, .inl r__9))] H_8.size q → A q := A_all hDc hA hS.1
      refine va_calli (va_runS (As := [.ref a_r_, .int 999]) (rest := [.int 1, .int sk0_6, .int tape, .ref t_p_]) ⟨hx, hb, hml, hown, hts⟩ (c_L_draw l hlf dC dI g (a_r_ := a_r_) (n_r_ := n_r_) (r_ := r__9) (many := 999) (hw := hw) (sz := H_8.size)) (va_cwS 2 hts (gqS aw_2_215 aw_2_216 aw_1_0 aw_2_217) rfl rfl rfl (by decide +kernel) ⟨Nat.le_of_ble_eq_true rfl, Nat.le_of_ble_eq_true rfl⟩) ⟨PG_blind, PG_call hK hG hS hPc hDc hFc⟩ rfl rfl hl.1 rfl (lv_room (Nat.le_of_ble_eq_true rfl)) dL_draws_132 ⟨by rw [hrc]; omega, by rw [hrs]; omega⟩) hS (fun q _ h => hFc q h) hFc (fun r_27 u_27 t_27 H_27 L_27 ht_27 hvm_27 hw_27 hB_27 hz_27 hk_27 hS => ?_)
      obtain ⟨r__28, u_27⟩ := u_27
      have hw := hw_27
      rw [ht_27] at hB_27
      obtain ⟨hP1, hD1⟩ := hB_27
      obtain ⟨hP, hD⟩ := join_r hPs hDs hk_27 hFc hP1 hD1
      obtain ⟨hP, hD⟩ := seg_join [offS ad_2 tp_p_ hd_p_ tf_p_ cf_p_ g o_3] [[(a_r_, .inl (g 0, n_r_, .inl r__28))]] [[(a_r_, .inl (g 0, n_r_, .inl r__28))], offS ad_2 tp_p_ hd_p_ tf_p_ cf_p_ g o_3] 2 [1, 0] rfl rfl (by decide) hP hD
      have hP : va_P (dC, dI) vwCl ([(a_r_, .inl (g 0, n_r_, .inl r__28))] ++ (offS ad_2 tp_p_ hd_p_ tf_p_ cf_p_ g o_3)) H_27 := hP
      have hD : va_D A ([(a_r_, .inl (g 0, n_r_, .inl r__28))] ++ (offS ad_2 tp_p_ hd_p_ tf_p_ cf_p_ g o_3)) := hD
      refine W.widen (k := 1) (n := 6) (by omega) (by omega) ?_
      refine lv_iadd hx hb dL_draws_135 ?_
      refine lv_topi (fun x_29 ex_29 => ?_)
      have hw := hw x_29 ex_29
      refine lv_aload_n hx hb dL_draws_136 rfl (lv_at hl 2 rfl) ?_
      obtain ⟨hPs, hDs⟩ := seg_call (segs := [[(a_r_, .inl (g 0, n_r_, .inl r__28))], offS ad_2 tp_p_ hd_p_ tf_p_ cf_p_ g o_3]) [offS ad_2 tp_p_ hd_p_ tf_p_ cf_p_ g o_3] [[(a_r_, .inl (g 0, n_r_, .inl r__28))]] 2 [1, 0] rfl rfl (by decide) hP hD
      have hPc : va_P (dC, dI) vwCl [(a_r_, .inl (g 0, n_r_, .inl r__28))] H_27 := P_r hPs
      have hDc : va_D A [(a_r_, .inl (g 0, n_r_, .inl r__28))] := D_r hDs
      have hFc : ∀ q, va_A [(a_r_, .inl (g 0, n_r_, .inl r__28))] H_27.size q → A q := A_all hDc hA hS.1
      refine va_calli (va_runS (As := [.ref a_r_]) (rest := [.int x_29, .int sk0_6, .int tape, .ref t_p_]) ⟨hx, hb, hml, hown, hts⟩ (c_L_next l hlf dC dI g (a_r_ := a_r_) (n_r_ := n_r_) (r_ := r__28) (hw := hw) (sz := H_27.size)) (va_cwS 1 hts (gqS aw_2_218 aw_2_219 aw_1_0 aw_2_220) rfl rfl rfl (by decide +kernel) ⟨Nat.le_of_ble_eq_true rfl, Nat.le_of_ble_eq_true rfl⟩) ⟨PG_blind, PG_call hK hG hS hPc hDc hFc⟩ rfl rfl hl.1 rfl (lv_room (Nat.le_of_ble_eq_true rfl)) dL_draws_137 ⟨by rw [hrc]; omega, by rw [hrs]; omega⟩) hS (fun q _ h => hFc q h) hFc (fun r_30 u_30 t_30 H_30 L_30 ht_30 hvm_30 hw_30 hB_30 hz_30 hk_30 hS => ?_)
      obtain ⟨r__31, u_30⟩ := u_30
      have hw := hw_30
      rw [ht_30] at hB_30
      obtain ⟨hP1, hD1⟩ := hB_30
      obtain ⟨hP, hD⟩ := join_r hPs hDs hk_30 hFc hP1 hD1
      obtain ⟨hP, hD⟩ := seg_join [offS ad_2 tp_p_ hd_p_ tf_p_ cf_p_ g o_3] [[(a_r_, .inl (g 0, n_r_, .inl r__31))]] [[(a_r_, .inl (g 0, n_r_, .inl r__31))], offS ad_2 tp_p_ hd_p_ tf_p_ cf_p_ g o_3] 2 [1, 0] rfl rfl (by decide) hP hD
      have hP : va_P (dC, dI) vwCl ([(a_r_, .inl (g 0, n_r_, .inl r__31))] ++ (offS ad_2 tp_p_ hd_p_ tf_p_ cf_p_ g o_3)) H_30 := hP
      have hD : va_D A ([(a_r_, .inl (g 0, n_r_, .inl r__31))] ++ (offS ad_2 tp_p_ hd_p_ tf_p_ cf_p_ g o_3)) := hD
      refine W.widen (k := 1) (n := 6) (by omega) (by omega) ?_
      refine lv_iconst (v := 1) hx hb dL_draws_140 (by decide) ?_
      refine lv_iushr hx hb dL_draws_141 rfl ?_
      refine lv_topi (fun x_32 ex_32 => ?_)
      have hw := hw x_32 ex_32
      obtain ⟨hPs, hDs⟩ := seg_call (segs := [[(a_r_, .inl (g 0, n_r_, .inl r__31))], offS ad_2 tp_p_ hd_p_ tf_p_ cf_p_ g o_3]) [[(a_r_, .inl (g 0, n_r_, .inl r__31))]] [offS ad_2 tp_p_ hd_p_ tf_p_ cf_p_ g o_3] 2 [0, 1] rfl rfl (by decide) hP hD
      have hPc : va_P (dC, dI) vwCl (offS ad_2 tp_p_ hd_p_ tf_p_ cf_p_ g o_3) H_30 := P_r hPs
      have hDc : va_D A (offS ad_2 tp_p_ hd_p_ tf_p_ cf_p_ g o_3) := D_r hDs
      have hFc : ∀ q, va_A (offS ad_2 tp_p_ hd_p_ tf_p_ cf_p_ g o_3) H_30.size q → A q := A_all hDc hA hS.1
      refine vx_calli (vx_runV (As := [.int tape, .int sk0_6, .int x_29, .int x_32]) (rest := []) ⟨hx, hb, hml, hown, hts⟩ (p_scatter l hlf dC dI g tp_p_ hd_p_ tf_p_ cf_p_ htf_p_ hcf_p_ ad_2 t_p_ had_2 o_3 tape sk0_6 x_29 x_32 (hw := hw) (sz := H_30.size)) (cwV 4 hts (gqV aw_3_119 aw_3_120 aw_3_121 aw_1_1 aw_3_122) rfl rfl rfl (by decide +kernel) ⟨Nat.le_of_ble_eq_true rfl, Nat.le_of_ble_eq_true rfl⟩) ⟨PG_blind, off_recv had_2 hK hPc, PG_call hK hG hS hPc hDc hFc⟩ rfl rfl hl.1 rfl (lv_room (Nat.le_of_ble_eq_true rfl)) dL_draws_142 ⟨by rw [hrc]; omega, by rw [hrs]; omega⟩) hS (fun q _ h => hFc q h) hFc (fun q _ h => hFc q h) (fun E ce q9 ux t H1 locs1 ht hvm hp9 hB9 hz hk hS9 hce hcv hcl => ?_) (fun r_33 u_33 t_33 H_33 L_33 ht_33 hvm_33 hw_33 hB_33 hz_33 hk_33 hS => ?_)
      · exact (hB9.1.1).elim
      obtain ⟨ad_34, o_35⟩ := u_33
      obtain ⟨hw, had_34⟩ := hw_33
      rw [ht_33] at hB_33
      obtain ⟨hP1, hD1⟩ := hB_33
      obtain ⟨hP, hD⟩ := join_r hPs hDs hk_33 hFc hP1 hD1
      obtain ⟨hP, hD⟩ := seg_join [[(a_r_, .inl (g 0, n_r_, .inl r__31))]] [offS ad_34 tp_p_ hd_p_ tf_p_ cf_p_ g o_35] [[(a_r_, .inl (g 0, n_r_, .inl r__31))], offS ad_34 tp_p_ hd_p_ tf_p_ cf_p_ g o_35] 2 [0, 1] rfl rfl (by decide) hP hD
      have hP : va_P (dC, dI) vwCl ([(a_r_, .inl (g 0, n_r_, .inl r__31))] ++ (offS ad_34 tp_p_ hd_p_ tf_p_ cf_p_ g o_35)) H_33 := hP
      have hD : va_D A ([(a_r_, .inl (g 0, n_r_, .inl r__31))] ++ (offS ad_34 tp_p_ hd_p_ tf_p_ cf_p_ g o_35)) := hD
      refine W.widen (k := 5) (n := 30) (by omega) (by omega) ?_
      refine lv_istore_n (lv' := [(3, .int r_33), (4, .int sk0_6), (0, .ref t_p_), (1, .ref a_r_), (2, .int tape)]) hx hb dL_draws_145 rfl hl (by decide) rfl (fun ls hl => ?_)
      refine lv_goto (tgt := 258) hx hb dL_draws_146 (by decide) ?_
      refine W.widen (k := 412) (n := 2472) (by omega) (by omega) ?_
      subst hQM
      exact W.vret hx hb hr (fun t ht hW => ⟨⟨(r__31, ad_34, o_35, ()), rfl, ⟨hw, had_34⟩, ⟨P_at ht hP, hD⟩⟩, hS.F ht⟩) hS.2.2 dL_draws_258
    · have hw := hw.2.2.2.1 e_sw
      refine W.eq (g2 := F0 m 39 ls (.int 3 :: [])) (by rw [e_sw]) ?_
      refine lv_tableIn (tgt := 149) hx hb dL_draws_39 (by decide) (by decide) rfl (by decide) ?_
      refine lv_iload hx hb dL_draws_149 (lv_at hl 0 rfl) ?_
      refine lv_iconst (v := 2) hx hb dL_draws_151 (by decide) ?_
      refine lv_idiv hx hb dL_draws_152 (by decide) ?_
      refine lv_topi (fun x_36 ex_36 => ?_)
      have hw := hw x_36 ex_36
      refine lv_istore (lv' := [(5, .int x_36), (4, .int sk0_6), (0, .ref t_p_), (1, .ref a_r_), (2, .int tape)]) hx hb dL_draws_153 hl (by decide) rfl (fun ls hl => ?_)
      have EX155_187 : ∀ (r__41 : Nat → Int32) (o_42 : OS) (ad_43 : Nat → Nat) (had_43 : ad_43 0 = t_p_) (H : Heap) (locs : List Loc), (wx_L_draws_155_187 tape Q) r__41 o_42 → va_P (dC, dI) vwCl ([(a_r_, .inl (g 0, n_r_, .inl r__41))] ++ (offS ad_43 tp_p_ hd_p_ tf_p_ cf_p_ g o_42)) H → va_D A ([(a_r_, .inl (g 0, n_r_, .inl r__41))] ++ (offS ad_43 tp_p_ hd_p_ tf_p_ cf_p_ g o_42)) → va_S A s.heap H locs → ∀ (ls : Array Slot), lv_has ls 6 [(0, .ref t_p_), (2, .int tape)] → W p l e (headSpec wqL_draws ({ frames := 8, cells := 412, slots := 2472, locals := 133 })).room s m ([.ref t_p_, .ref a_r_, .int tape] : List Value).toArray below meth c H locs 405 2430 QM (F0 m 187 ls []) := by
        intro r__41 o_42 ad_43 had_43 H locs hw hP hD hS ls hl
        refine lv_aload_n hx hb dL_draws_187 rfl (lv_at hl 0 rfl) ?_
        refine lv_iload_n hx hb dL_draws_188 rfl (lv_at hl 1 rfl) ?_
        refine lv_bipush (v := 7) hx hb dL_draws_189 (by decide) ?_
        obtain ⟨hPs, hDs⟩ := seg_call (segs := [[(a_r_, .inl (g 0, n_r_, .inl r__41))], offS ad_43 tp_p_ hd_p_ tf_p_ cf_p_ g o_42]) [[(a_r_, .inl (g 0, n_r_, .inl r__41))]] [offS ad_43 tp_p_ hd_p_ tf_p_ cf_p_ g o_42] 2 [0, 1] rfl rfl (by decide) hP hD
        have hPc : va_P (dC, dI) vwCl (offS ad_43 tp_p_ hd_p_ tf_p_ cf_p_ g o_42) H := P_r hPs
        have hDc : va_D A (offS ad_43 tp_p_ hd_p_ tf_p_ cf_p_ g o_42) := D_r hDs
        have hFc : ∀ q, va_A (offS ad_43 tp_p_ hd_p_ tf_p_ cf_p_ g o_42) H.size q → A q := A_all hDc hA hS.1
        refine vx_calli (vx_runV (As := [.int tape, .int 7]) (rest := []) ⟨hx, hb, hml, hown, hts⟩ (p_copy l hlf dC dI g tp_p_ hd_p_ tf_p_ cf_p_ htf_p_ hcf_p_ ad_43 t_p_ had_43 o_42 tape 7 (hw := hw) (sz := H.size)) (cwV 2 hts (gqV aw_3_132 aw_3_133 aw_3_134 aw_1_1 aw_3_135) rfl rfl rfl (by decide +kernel) ⟨Nat.le_of_ble_eq_true rfl, Nat.le_of_ble_eq_true rfl⟩) ⟨PG_blind, off_recv had_43 hK hPc, PG_call hK hG hS hPc hDc hFc⟩ rfl rfl hl.1 rfl (lv_room (Nat.le_of_ble_eq_true rfl)) dL_draws_191 ⟨by rw [hrc]; omega, by rw [hrs]; omega⟩) hS (fun q _ h => hFc q h) hFc (fun q _ h => hFc q h) (fun E ce q9 ux t H1 locs1 ht hvm hp9 hB9 hz hk hS9 hce hcv hcl => ?_) (fun r_44 u_44 t_44 H_44 L_44 ht_44 hvm_44 hw_44 hB_44 hz_44 hk_44 hS => ?_)
        · exact (hB9.1.1).elim
        obtain ⟨ad_45, o_46⟩ := u_44
        obtain ⟨hw, had_45⟩ := hw_44
        rw [ht_44] at hB_44
        obtain ⟨hP1, hD1⟩ := hB_44
        obtain ⟨hP, hD⟩ := join_r hPs hDs hk_44 hFc hP1 hD1
        obtain ⟨hP, hD⟩ := seg_join [[(a_r_, .inl (g 0, n_r_, .inl r__41))]] [offS ad_45 tp_p_ hd_p_ tf_p_ cf_p_ g o_46] [[(a_r_, .inl (g 0, n_r_, .inl r__41))], offS ad_45 tp_p_ hd_p_ tf_p_ cf_p_ g o_46] 2 [0, 1] rfl rfl (by decide) hP hD
        have hP : va_P (dC, dI) vwCl ([(a_r_, .inl (g 0, n_r_, .inl r__41))] ++ (offS ad_45 tp_p_ hd_p_ tf_p_ cf_p_ g o_46)) H_44 := hP
        have hD : va_D A ([(a_r_, .inl (g 0, n_r_, .inl r__41))] ++ (offS ad_45 tp_p_ hd_p_ tf_p_ cf_p_ g o_46)) := hD
        refine W.widen (k := 407) (n := 2442) (by omega) (by omega) ?_
        refine lv_aload_n hx hb dL_draws_194 rfl (lv_at hl 0 rfl) ?_
        refine lv_bipush (v := 7) hx hb dL_draws_195 (by decide) ?_
        obtain ⟨hPs, hDs⟩ := seg_call (segs := [[(a_r_, .inl (g 0, n_r_, .inl r__41))], offS ad_45 tp_p_ hd_p_ tf_p_ cf_p_ g o_46]) [[(a_r_, .inl (g 0, n_r_, .inl r__41))]] [offS ad_45 tp_p_ hd_p_ tf_p_ cf_p_ g o_46] 2 [0, 1] rfl rfl (by decide) hP hD
        have hPc : va_P (dC, dI) vwCl (offS ad_45 tp_p_ hd_p_ tf_p_ cf_p_ g o_46) H_44 := P_r hPs
        have hDc : va_D A (offS ad_45 tp_p_ hd_p_ tf_p_ cf_p_ g o_46) := D_r hDs
        have hFc : ∀ q, va_A (offS ad_45 tp_p_ hd_p_ tf_p_ cf_p_ g o_46) H_44.size q → A q := A_all hDc hA hS.1
        refine vx_calli (vx_runV (As := [.int 7]) (rest := [.int r_44]) ⟨hx, hb, hml, hown, hts⟩ (p_turn l hlf dC dI g tp_p_ hd_p_ tf_p_ cf_p_ htf_p_ hcf_p_ ad_45 t_p_ had_45 o_46 7 (hw := hw) (sz := H_44.size)) (cwV 1 hts (gqV aw_3_143 aw_3_144 aw_3_145 aw_1_1 aw_3_146) rfl rfl rfl (by decide +kernel) ⟨Nat.le_of_ble_eq_true rfl, Nat.le_of_ble_eq_true rfl⟩) ⟨PG_blind, off_recv had_45 hK hPc, PG_call hK hG hS hPc hDc hFc⟩ rfl rfl hl.1 rfl (lv_room (Nat.le_of_ble_eq_true rfl)) dL_draws_197 ⟨by rw [hrc]; omega, by rw [hrs]; omega⟩) hS (fun q _ h => hFc q h) hFc (fun q _ h => hFc q h) (fun E ce q9 ux t H1 locs1 ht hvm hp9 hB9 hz hk hS9 hce hcv hcl => ?_) (fun r_47 u_47 t_47 H_47 L_47 ht_47 hvm_47 hw_47 hB_47 hz_47 hk_47 hS => ?_)
        · exact (hB9.1.1).elim
        obtain ⟨ad_48, o_49⟩ := u_47
        obtain ⟨hw, had_48⟩ := hw_47
        rw [ht_47] at hB_47
        obtain ⟨hP1, hD1⟩ := hB_47
        obtain ⟨hP, hD⟩ := join_r hPs hDs hk_47 hFc hP1 hD1
        obtain ⟨hP, hD⟩ := seg_join [[(a_r_, .inl (g 0, n_r_, .inl r__41))]] [offS ad_48 tp_p_ hd_p_ tf_p_ cf_p_ g o_49] [[(a_r_, .inl (g 0, n_r_, .inl r__41))], offS ad_48 tp_p_ hd_p_ tf_p_ cf_p_ g o_49] 2 [0, 1] rfl rfl (by decide) hP hD
        have hP : va_P (dC, dI) vwCl ([(a_r_, .inl (g 0, n_r_, .inl r__41))] ++ (offS ad_48 tp_p_ hd_p_ tf_p_ cf_p_ g o_49)) H_47 := hP
        have hD : va_D A ([(a_r_, .inl (g 0, n_r_, .inl r__41))] ++ (offS ad_48 tp_p_ hd_p_ tf_p_ cf_p_ g o_49)) := hD
        refine W.widen (k := 408) (n := 2448) (by omega) (by omega) ?_
        refine lv_iadd hx hb dL_draws_200 ?_
        refine lv_topi (fun x_50 ex_50 => ?_)
        have hw := hw x_50 ex_50
        refine lv_istore_n (lv' := [(3, .int x_50), (0, .ref t_p_), (2, .int tape)]) hx hb dL_draws_201 rfl hl (by decide) rfl (fun ls hl => ?_)
        refine lv_aload_n hx hb dL_draws_202 rfl (lv_at hl 1 rfl) ?_
        refine lv_iload_n hx hb dL_draws_203 rfl (lv_at hl 2 rfl) ?_
        refine lv_iconst (v := 3) hx hb dL_draws_204 (by decide) ?_
        refine lv_iconst (v := 5) hx hb dL_draws_205 (by decide) ?_
        refine lv_iconst (v := 1) hx hb dL_draws_206 (by decide) ?_
        obtain ⟨hPs, hDs⟩ := seg_call (segs := [[(a_r_, .inl (g 0, n_r_, .inl r__41))], offS ad_48 tp_p_ hd_p_ tf_p_ cf_p_ g o_49]) [[(a_r_, .inl (g 0, n_r_, .inl r__41))]] [offS ad_48 tp_p_ hd_p_ tf_p_ cf_p_ g o_49] 2 [0, 1] rfl rfl (by decide) hP hD
        have hPc : va_P (dC, dI) vwCl (offS ad_48 tp_p_ hd_p_ tf_p_ cf_p_ g o_49) H_47 := P_r hPs
        have hDc : va_D A (offS ad_48 tp_p_ hd_p_ tf_p_ cf_p_ g o_49) := D_r hDs
        have hFc : ∀ q, va_A (offS ad_48 tp_p_ hd_p_ tf_p_ cf_p_ g o_49) H_47.size q → A q := A_all hDc hA hS.1
        refine vx_calli (vx_runV (As := [.int tape, .int 3, .int 5, .int 1]) (rest := []) ⟨hx, hb, hml, hown, hts⟩ (p_scatter l hlf dC dI g tp_p_ hd_p_ tf_p_ cf_p_ htf_p_ hcf_p_ ad_48 t_p_ had_48 o_49 tape 3 5 1 (hw := hw) (sz := H_47.size)) (cwV 4 hts (gqV aw_3_119 aw_3_120 aw_3_121 aw_1_1 aw_3_122) rfl rfl rfl (by decide +kernel) ⟨Nat.le_of_ble_eq_true rfl, Nat.le_of_ble_eq_true rfl⟩) ⟨PG_blind, off_recv had_48 hK hPc, PG_call hK hG hS hPc hDc hFc⟩ rfl rfl hl.1 rfl (lv_room (Nat.le_of_ble_eq_true rfl)) dL_draws_207 ⟨by rw [hrc]; omega, by rw [hrs]; omega⟩) hS (fun q _ h => hFc q h) hFc (fun q _ h => hFc q h) (fun E ce q9 ux t H1 locs1 ht hvm hp9 hB9 hz hk hS9 hce hcv hcl => ?_) (fun r_51 u_51 t_51 H_51 L_51 ht_51 hvm_51 hw_51 hB_51 hz_51 hk_51 hS => ?_)
        · exact (hB9.1.1).elim
        obtain ⟨ad_52, o_53⟩ := u_51
        obtain ⟨hw, had_52⟩ := hw_51
        rw [ht_51] at hB_51
        obtain ⟨hP1, hD1⟩ := hB_51
        obtain ⟨hP, hD⟩ := join_r hPs hDs hk_51 hFc hP1 hD1
        obtain ⟨hP, hD⟩ := seg_join [[(a_r_, .inl (g 0, n_r_, .inl r__41))]] [offS ad_52 tp_p_ hd_p_ tf_p_ cf_p_ g o_53] [[(a_r_, .inl (g 0, n_r_, .inl r__41))], offS ad_52 tp_p_ hd_p_ tf_p_ cf_p_ g o_53] 2 [0, 1] rfl rfl (by decide) hP hD
        have hP : va_P (dC, dI) vwCl ([(a_r_, .inl (g 0, n_r_, .inl r__41))] ++ (offS ad_52 tp_p_ hd_p_ tf_p_ cf_p_ g o_53)) H_51 := hP
        have hD : va_D A ([(a_r_, .inl (g 0, n_r_, .inl r__41))] ++ (offS ad_52 tp_p_ hd_p_ tf_p_ cf_p_ g o_53)) := hD
        refine W.widen (k := 412) (n := 2472) (by omega) (by omega) ?_
        refine lv_istore_n (lv' := [(3, .int r_51), (0, .ref t_p_), (2, .int tape)]) hx hb dL_draws_210 rfl hl (by decide) rfl (fun ls hl => ?_)
        refine lv_goto (tgt := 258) hx hb dL_draws_211 (by decide) ?_
        refine W.widen (k := 412) (n := 2472) (by omega) (by omega) ?_
        subst hQM
        exact W.vret hx hb hr (fun t ht hW => ⟨⟨(r__41, ad_52, o_53, ()), rfl, ⟨hw, had_52⟩, ⟨P_at ht hP, hD⟩⟩, hS.F ht⟩) hS.2.2 dL_draws_258
      have LOOP155 : ∀ (n155 : Nat), n155 ≤ 101 → ∀ (v5_37 : Int32) (r__38 : Nat → Int32) (o_39 : OS) (ad_40 : Nat → Nat) (had_40 : ad_40 0 = t_p_) (H : Heap) (locs : List Loc), wl_L_draws_155 n_r_ tape (wx_L_draws_155_187 tape Q) n155 v5_37 r__38 o_39 → va_P (dC, dI) vwCl ([(a_r_, .inl (g 0, n_r_, .inl r__38))] ++ (offS ad_40 tp_p_ hd_p_ tf_p_ cf_p_ g o_39)) H → va_D A ([(a_r_, .inl (g 0, n_r_, .inl r__38))] ++ (offS ad_40 tp_p_ hd_p_ tf_p_ cf_p_ g o_39)) → va_S A s.heap H locs → ∀ (ls : Array Slot), lv_has ls 6 [(0, .ref t_p_), (1, .ref a_r_), (2, .int tape), (5, .int v5_37)] → W p l e (headSpec wqL_draws ({ frames := 8, cells := 412, slots := 2472, locals := 133 })).room s m ([.ref t_p_, .ref a_r_, .int tape] : List Value).toArray below meth c H locs (405 - n155 * 4) (2430 - n155 * 24) QM (F0 m 155 ls []) := by
        intro n155
        induction n155 with
        | zero =>
          intro hle_n155
          intro v5_37 r__38 o_39 ad_40 had_40 H locs hw hP hD hS ls hl
          exact False.elim hw
        | succ n155 ih155 =>
          intro hle_n155
          have ih155 := ih155 (by omega)
          intro v5_37 r__38 o_39 ad_40 had_40 H locs hw hP hD hS ls hl
          rw [wl_L_draws_155_s] at hw
          obtain ⟨kb155, hkb155⟩ : ∃ x : Nat, x = 405 - (n155 + 1) * 4 := ⟨_, rfl⟩
          obtain ⟨nb155, hnb155⟩ : ∃ x : Nat, x = 2430 - (n155 + 1) * 24 := ⟨_, rfl⟩
          refine W.widen (k := kb155) (n := nb155) (by omega) (by omega) ?_
          refine lv_iload hx hb dL_draws_155 (lv_at hl 3 rfl) ?_
          refine lv_if_le (tgt := 187) hx hb dL_draws_157 (by decide) (fun c_54 => ?_) (fun c_54 => ?_)
          · have hw := hw.1 c_54
            refine W.widen (k := 405) (n := 2430) (by omega) (by omega) ?_
            exact EX155_187 r__38 o_39 ad_40 had_40 _ _ hw hP hD hS _ (lv_sub hl [0, 2] rfl)
          · have hw := hw.2 c_54
            refine lv_aload_n hx hb dL_draws_160 rfl (lv_at hl 0 rfl) ?_
            refine lv_iload_n hx hb dL_draws_161 rfl (lv_at hl 2 rfl) ?_
            refine lv_aload_n hx hb dL_draws_162 rfl (lv_at hl 1 rfl) ?_
            refine lv_bipush (v := 9) hx hb dL_draws_163 (by decide) ?_
            obtain ⟨hPs, hDs⟩ := seg_call (segs := [[(a_r_, .inl (g 0, n_r_, .inl r__38))], offS ad_40 tp_p_ hd_p_ tf_p_ cf_p_ g o_39]) [offS ad_40 tp_p_ hd_p_ tf_p_ cf_p_ g o_39] [[(a_r_, .inl (g 0, n_r_, .inl r__38))]] 2 [1, 0] rfl rfl (by decide) hP hD
            have hPc : va_P (dC, dI) vwCl [(a_r_, .inl (g 0, n_r_, .inl r__38))] H := P_r hPs
            have hDc : va_D A [(a_r_, .inl (g 0, n_r_, .inl r__38))] := D_r hDs
            have hFc : ∀ q, va_A [(a_r_, .inl (g 0, n_r_, .inl r__38))] H.size q → A q := A_all hDc hA hS.1
            refine va_calli (va_runS (As := [.ref a_r_, .int 9]) (rest := [.int tape, .ref t_p_]) ⟨hx, hb, hml, hown, hts⟩ (c_L_draw l hlf dC dI g (a_r_ := a_r_) (n_r_ := n_r_) (r_ := r__38) (many := 9) (hw := hw) (sz := H.size)) (va_cwS 2 hts (gqS aw_2_215 aw_2_216 aw_1_0 aw_2_217) rfl rfl rfl (by decide +kernel) ⟨Nat.le_of_ble_eq_true rfl, Nat.le_of_ble_eq_true rfl⟩) ⟨PG_blind, PG_call hK hG hS hPc hDc hFc⟩ rfl rfl hl.1 rfl (lv_room (Nat.le_of_ble_eq_true rfl)) dL_draws_165 ⟨by rw [hrc]; omega, by rw [hrs]; omega⟩) hS (fun q _ h => hFc q h) hFc (fun r_55 u_55 t_55 H_55 L_55 ht_55 hvm_55 hw_55 hB_55 hz_55 hk_55 hS => ?_)
            obtain ⟨r__56, u_55⟩ := u_55
            have hw := hw_55
            rw [ht_55] at hB_55
            obtain ⟨hP1, hD1⟩ := hB_55
            obtain ⟨hP, hD⟩ := join_r hPs hDs hk_55 hFc hP1 hD1
            obtain ⟨hP, hD⟩ := seg_join [offS ad_40 tp_p_ hd_p_ tf_p_ cf_p_ g o_39] [[(a_r_, .inl (g 0, n_r_, .inl r__56))]] [[(a_r_, .inl (g 0, n_r_, .inl r__56))], offS ad_40 tp_p_ hd_p_ tf_p_ cf_p_ g o_39] 2 [1, 0] rfl rfl (by decide) hP hD
            have hP : va_P (dC, dI) vwCl ([(a_r_, .inl (g 0, n_r_, .inl r__56))] ++ (offS ad_40 tp_p_ hd_p_ tf_p_ cf_p_ g o_39)) H_55 := hP
            have hD : va_D A ([(a_r_, .inl (g 0, n_r_, .inl r__56))] ++ (offS ad_40 tp_p_ hd_p_ tf_p_ cf_p_ g o_39)) := hD
            refine W.widen (k := (kb155 + 0)) (n := (nb155 + 0)) (by omega) (by omega) ?_
            refine lv_iconst (v := 4) hx hb dL_draws_168 (by decide) ?_
            refine lv_isub hx hb dL_draws_169 ?_
            refine lv_topi (fun x_57 ex_57 => ?_)
            have hw := hw x_57 ex_57
            refine lv_aload_n hx hb dL_draws_170 rfl (lv_at hl 1 rfl) ?_
            refine lv_sipush (v := 10000) hx hb dL_draws_171 (by decide) ?_
            obtain ⟨hPs, hDs⟩ := seg_call (segs := [[(a_r_, .inl (g 0, n_r_, .inl r__56))], offS ad_40 tp_p_ hd_p_ tf_p_ cf_p_ g o_39]) [offS ad_40 tp_p_ hd_p_ tf_p_ cf_p_ g o_39] [[(a_r_, .inl (g 0, n_r_, .inl r__56))]] 2 [1, 0] rfl rfl (by decide) hP hD
            have hPc : va_P (dC, dI) vwCl [(a_r_, .inl (g 0, n_r_, .inl r__56))] H_55 := P_r hPs
            have hDc : va_D A [(a_r_, .inl (g 0, n_r_, .inl r__56))] := D_r hDs
            have hFc : ∀ q, va_A [(a_r_, .inl (g 0, n_r_, .inl r__56))] H_55.size q → A q := A_all hDc hA hS.1
            refine va_calli (va_runS (As := [.ref a_r_, .int 10000]) (rest := [.int x_57, .int tape, .ref t_p_]) ⟨hx, hb, hml, hown, hts⟩ (c_L_draw l hlf dC dI g (a_r_ := a_r_) (n_r_ := n_r_) (r_ := r__56) (many := 10000) (hw := hw) (sz := H_55.size)) (va_cwS 2 hts (gqS aw_2_215 aw_2_216 aw_1_0 aw_2_217) rfl rfl rfl (by decide +kernel) ⟨Nat.le_of_ble_eq_true rfl, Nat.le_of_ble_eq_true rfl⟩) ⟨PG_blind, PG_call hK hG hS hPc hDc hFc⟩ rfl rfl hl.1 rfl (lv_room (Nat.le_of_ble_eq_true rfl)) dL_draws_174 ⟨by rw [hrc]; omega, by rw [hrs]; omega⟩) hS (fun q _ h => hFc q h) hFc (fun r_58 u_58 t_58 H_58 L_58 ht_58 hvm_58 hw_58 hB_58 hz_58 hk_58 hS => ?_)
            obtain ⟨r__59, u_58⟩ := u_58
            have hw := hw_58
            rw [ht_58] at hB_58
            obtain ⟨hP1, hD1⟩ := hB_58
            obtain ⟨hP, hD⟩ := join_r hPs hDs hk_58 hFc hP1 hD1
            obtain ⟨hP, hD⟩ := seg_join [offS ad_40 tp_p_ hd_p_ tf_p_ cf_p_ g o_39] [[(a_r_, .inl (g 0, n_r_, .inl r__59))]] [[(a_r_, .inl (g 0, n_r_, .inl r__59))], offS ad_40 tp_p_ hd_p_ tf_p_ cf_p_ g o_39] 2 [1, 0] rfl rfl (by decide) hP hD
            have hP : va_P (dC, dI) vwCl ([(a_r_, .inl (g 0, n_r_, .inl r__59))] ++ (offS ad_40 tp_p_ hd_p_ tf_p_ cf_p_ g o_39)) H_58 := hP
            have hD : va_D A ([(a_r_, .inl (g 0, n_r_, .inl r__59))] ++ (offS ad_40 tp_p_ hd_p_ tf_p_ cf_p_ g o_39)) := hD
            refine W.widen (k := (kb155 + 0)) (n := (nb155 + 0)) (by omega) (by omega) ?_
            obtain ⟨hPs, hDs⟩ := seg_call (segs := [[(a_r_, .inl (g 0, n_r_, .inl r__59))], offS ad_40 tp_p_ hd_p_ tf_p_ cf_p_ g o_39]) [[(a_r_, .inl (g 0, n_r_, .inl r__59))]] [offS ad_40 tp_p_ hd_p_ tf_p_ cf_p_ g o_39] 2 [0, 1] rfl rfl (by decide) hP hD
            have hPc : va_P (dC, dI) vwCl (offS ad_40 tp_p_ hd_p_ tf_p_ cf_p_ g o_39) H_58 := P_r hPs
            have hDc : va_D A (offS ad_40 tp_p_ hd_p_ tf_p_ cf_p_ g o_39) := D_r hDs
            have hFc : ∀ q, va_A (offS ad_40 tp_p_ hd_p_ tf_p_ cf_p_ g o_39) H_58.size q → A q := A_all hDc hA hS.1
            refine vx_calli (vx_runV (As := [.int tape, .int x_57, .int r_58]) (rest := []) ⟨hx, hb, hml, hown, hts⟩ (p_put l hlf dC dI g tp_p_ hd_p_ tf_p_ cf_p_ htf_p_ hcf_p_ ad_40 t_p_ had_40 o_39 tape x_57 r_58 (hw := hw) (sz := H_58.size)) (cwV 3 hts (gqV aw_3_128 aw_3_129 aw_3_130 aw_1_1 aw_3_131) rfl rfl rfl (by decide +kernel) ⟨Nat.le_of_ble_eq_true rfl, Nat.le_of_ble_eq_true rfl⟩) ⟨PG_blind, off_recv had_40 hK hPc, PG_call hK hG hS hPc hDc hFc⟩ rfl rfl hl.1 rfl (lv_room (Nat.le_of_ble_eq_true rfl)) dL_draws_177 ⟨by rw [hrc]; omega, by rw [hrs]; omega⟩) hS (fun q _ h => hFc q h) hFc (fun q _ h => hFc q h) (fun E ce q9 ux t H1 locs1 ht hvm hp9 hB9 hz hk hS9 hce hcv hcl => ?_) (fun r_60 u_60 t_60 H_60 L_60 ht_60 hvm_60 hw_60 hB_60 hz_60 hk_60 hS => ?_)
            · exact (hB9.1.1).elim
            obtain ⟨ad_61, o_62⟩ := u_60
            obtain ⟨hw, had_61⟩ := hw_60
            rw [ht_60] at hB_60
            obtain ⟨hP1, hD1⟩ := hB_60
            obtain ⟨hP, hD⟩ := join_r hPs hDs hk_60 hFc hP1 hD1
            obtain ⟨hP, hD⟩ := seg_join [[(a_r_, .inl (g 0, n_r_, .inl r__59))]] [offS ad_61 tp_p_ hd_p_ tf_p_ cf_p_ g o_62] [[(a_r_, .inl (g 0, n_r_, .inl r__59))], offS ad_61 tp_p_ hd_p_ tf_p_ cf_p_ g o_62] 2 [0, 1] rfl rfl (by decide) hP hD
            have hP : va_P (dC, dI) vwCl ([(a_r_, .inl (g 0, n_r_, .inl r__59))] ++ (offS ad_61 tp_p_ hd_p_ tf_p_ cf_p_ g o_62)) H_60 := hP
            have hD : va_D A ([(a_r_, .inl (g 0, n_r_, .inl r__59))] ++ (offS ad_61 tp_p_ hd_p_ tf_p_ cf_p_ g o_62)) := hD
            refine W.widen (k := (kb155 + 4)) (n := (nb155 + 24)) (by omega) (by omega) ?_
            refine lv_istore_n (lv' := [(3, .int r_60), (0, .ref t_p_), (1, .ref a_r_), (2, .int tape), (5, .int v5_37)]) hx hb dL_draws_180 rfl hl (by decide) rfl (fun ls hl => ?_)
            obtain ⟨x_63, ex_63⟩ : ∃ y : Int32, y = v5_37 + (-1) := ⟨_, rfl⟩
            have hw := hw x_63 ex_63
            refine lv_iinc (v := x_63) (lv' := [(5, .int x_63), (3, .int r_60), (0, .ref t_p_), (1, .ref a_r_), (2, .int tape)]) hx hb dL_draws_181 hl (k := 4) rfl (by rw [ex_63]; rfl) (by decide) rfl (fun ls hl => ?_)
            refine lv_goto (tgt := 155) hx hb dL_draws_184 (by decide) ?_
            refine W.widen (k := (405 - n155 * 4)) (n := (2430 - n155 * 24)) (by omega) (by omega) ?_
            exact ih155 x_63 r__59 o_62 ad_61 had_61 _ _ hw hP hD hS _ (lv_sub hl [2, 3, 4, 0] rfl)
      obtain ⟨n155, hle155, hw⟩ := hw
      refine W.widen (k := (405 - n155 * 4)) (n := (2430 - n155 * 24)) (by omega) (by omega) ?_
      exact LOOP155 n155 hle155 x_36 r__9 o_3 ad_2 had_2 _ _ hw hP hD hS _ (lv_sub hl [2, 3, 4, 0] rfl)
    · have hw := hw.2.2.2.2 c_sw
      refine lv_tableOut (tgt := 214) hx hb dL_draws_39 c_sw (by decide) ?_
      refine lv_aload_n hx hb dL_draws_214 rfl (lv_at hl 1 rfl) ?_
      refine lv_iload_n hx hb dL_draws_215 rfl (lv_at hl 3 rfl) ?_
      refine lv_iconst (v := 0) hx hb dL_draws_216 (by decide) ?_
      refine lv_iconst (v := 3) hx hb dL_draws_217 (by decide) ?_
      refine lv_iload hx hb dL_draws_218 (lv_at hl 0 rfl) ?_
      refine lv_iconst (v := 3) hx hb dL_draws_220 (by decide) ?_
      refine lv_idiv hx hb dL_draws_221 (by decide) ?_
      refine lv_topi (fun x_64 ex_64 => ?_)
      have hw := hw x_64 ex_64
      obtain ⟨hPs, hDs⟩ := seg_call (segs := [[(a_r_, .inl (g 0, n_r_, .inl r__9))], offS ad_2 tp_p_ hd_p_ tf_p_ cf_p_ g o_3]) [[(a_r_, .inl (g 0, n_r_, .inl r__9))]] [offS ad_2 tp_p_ hd_p_ tf_p_ cf_p_ g o_3] 2 [0, 1] rfl rfl (by decide) hP hD
      have hPc : va_P (dC, dI) vwCl (offS ad_2 tp_p_ hd_p_ tf_p_ cf_p_ g o_3) H_8 := P_r hPs
      have hDc : va_D A (offS ad_2 tp_p_ hd_p_ tf_p_ cf_p_ g o_3) := D_r hDs
      have hFc : ∀ q, va_A (offS ad_2 tp_p_ hd_p_ tf_p_ cf_p_ g o_3) H_8.size q → A q := A_all hDc hA hS.1
      refine vx_calli (vx_runV (As := [.int tape, .int 0, .int 3, .int x_64]) (rest := []) ⟨hx, hb, hml, hown, hts⟩ (p_fill l hlf dC dI g tp_p_ hd_p_ tf_p_ cf_p_ htf_p_ hcf_p_ ad_2 t_p_ had_2 o_3 tape 0 3 x_64 (hw := hw) (sz := H_8.size)) (cwV 4 hts (gqV aw_3_66 aw_3_67 aw_3_68 aw_1_1 aw_3_69) rfl rfl rfl (by decide +kernel) ⟨Nat.le_of_ble_eq_true rfl, Nat.le_of_ble_eq_true rfl⟩) ⟨PG_blind, off_recv had_2 hK hPc, PG_call hK hG hS hPc hDc hFc⟩ rfl rfl hl.1 rfl (lv_room (Nat.le_of_ble_eq_true rfl)) dL_draws_222 ⟨by rw [hrc]; omega, by rw [hrs]; omega⟩) hS (fun q _ h => hFc q h) hFc (fun q _ h => hFc q h) (fun E ce q9 ux t H1 locs1 ht hvm hp9 hB9 hz hk hS9 hce hcv hcl => ?_) (fun r_65 u_65 t_65 H_65 L_65 ht_65 hvm_65 hw_65 hB_65 hz_65 hk_65 hS => ?_)
      · exact (hB9.1.1).elim
      obtain ⟨ad_66, o_67⟩ := u_65
      obtain ⟨hw, had_66⟩ := hw_65
      rw [ht_65] at hB_65
      obtain ⟨hP1, hD1⟩ := hB_65
      obtain ⟨hP, hD⟩ := join_r hPs hDs hk_65 hFc hP1 hD1
      obtain ⟨hP, hD⟩ := seg_join [[(a_r_, .inl (g 0, n_r_, .inl r__9))]] [offS ad_66 tp_p_ hd_p_ tf_p_ cf_p_ g o_67] [[(a_r_, .inl (g 0, n_r_, .inl r__9))], offS ad_66 tp_p_ hd_p_ tf_p_ cf_p_ g o_67] 2 [0, 1] rfl rfl (by decide) hP hD
      have hP : va_P (dC, dI) vwCl ([(a_r_, .inl (g 0, n_r_, .inl r__9))] ++ (offS ad_66 tp_p_ hd_p_ tf_p_ cf_p_ g o_67)) H_65 := hP
      have hD : va_D A ([(a_r_, .inl (g 0, n_r_, .inl r__9))] ++ (offS ad_66 tp_p_ hd_p_ tf_p_ cf_p_ g o_67)) := hD
      refine W.widen (k := 7) (n := 42) (by omega) (by omega) ?_
      refine lv_istore_n (lv' := [(3, .int r_65), (4, .int sk0_6), (0, .ref t_p_), (1, .ref a_r_), (2, .int tape)]) hx hb dL_draws_225 rfl hl (by decide) rfl (fun ls hl => ?_)
      refine lv_aload_n hx hb dL_draws_226 rfl (lv_at hl 2 rfl) ?_
      refine lv_iload_n hx hb dL_draws_227 rfl (lv_at hl 4 rfl) ?_
      refine lv_bipush (v := 20) hx hb dL_draws_228 (by decide) ?_
      refine lv_bipush (v := (-2)) hx hb dL_draws_230 (by decide) ?_
      refine lv_iload hx hb dL_draws_232 (lv_at hl 1 rfl) ?_
      refine lv_iconst (v := 3) hx hb dL_draws_234 (by decide) ?_
      refine lv_idiv hx hb dL_draws_235 (by decide) ?_
      refine lv_topi (fun x_68 ex_68 => ?_)
      have hw := hw x_68 ex_68
      obtain ⟨hPs, hDs⟩ := seg_call (segs := [[(a_r_, .inl (g 0, n_r_, .inl r__9))], offS ad_66 tp_p_ hd_p_ tf_p_ cf_p_ g o_67]) [[(a_r_, .inl (g 0, n_r_, .inl r__9))]] [offS ad_66 tp_p_ hd_p_ tf_p_ cf_p_ g o_67] 2 [0, 1] rfl rfl (by decide) hP hD
      have hPc : va_P (dC, dI) vwCl (offS ad_66 tp_p_ hd_p_ tf_p_ cf_p_ g o_67) H_65 := P_r hPs
      have hDc : va_D A (offS ad_66 tp_p_ hd_p_ tf_p_ cf_p_ g o_67) := D_r hDs
      have hFc : ∀ q, va_A (offS ad_66 tp_p_ hd_p_ tf_p_ cf_p_ g o_67) H_65.size q → A q := A_all hDc hA hS.1
      refine vx_calli (vx_runV (As := [.int tape, .int 20, .int (-2), .int x_68]) (rest := []) ⟨hx, hb, hml, hown, hts⟩ (p_fill l hlf dC dI g tp_p_ hd_p_ tf_p_ cf_p_ htf_p_ hcf_p_ ad_66 t_p_ had_66 o_67 tape 20 (-2) x_68 (hw := hw) (sz := H_65.size)) (cwV 4 hts (gqV aw_3_66 aw_3_67 aw_3_68 aw_1_1 aw_3_69) rfl rfl rfl (by decide +kernel) ⟨Nat.le_of_ble_eq_true rfl, Nat.le_of_ble_eq_true rfl⟩) ⟨PG_blind, off_recv had_66 hK hPc, PG_call hK hG hS hPc hDc hFc⟩ rfl rfl hl.1 rfl (lv_room (Nat.le_of_ble_eq_true rfl)) dL_draws_236 ⟨by rw [hrc]; omega, by rw [hrs]; omega⟩) hS (fun q _ h => hFc q h) hFc (fun q _ h => hFc q h) (fun E ce q9 ux t H1 locs1 ht hvm hp9 hB9 hz hk hS9 hce hcv hcl => ?_) (fun r_69 u_69 t_69 H_69 L_69 ht_69 hvm_69 hw_69 hB_69 hz_69 hk_69 hS => ?_)
      · exact (hB9.1.1).elim
      obtain ⟨ad_70, o_71⟩ := u_69
      obtain ⟨hw, had_70⟩ := hw_69
      rw [ht_69] at hB_69
      obtain ⟨hP1, hD1⟩ := hB_69
      obtain ⟨hP, hD⟩ := join_r hPs hDs hk_69 hFc hP1 hD1
      obtain ⟨hP, hD⟩ := seg_join [[(a_r_, .inl (g 0, n_r_, .inl r__9))]] [offS ad_70 tp_p_ hd_p_ tf_p_ cf_p_ g o_71] [[(a_r_, .inl (g 0, n_r_, .inl r__9))], offS ad_70 tp_p_ hd_p_ tf_p_ cf_p_ g o_71] 2 [0, 1] rfl rfl (by decide) hP hD
      have hP : va_P (dC, dI) vwCl ([(a_r_, .inl (g 0, n_r_, .inl r__9))] ++ (offS ad_70 tp_p_ hd_p_ tf_p_ cf_p_ g o_71)) H_69 := hP
      have hD : va_D A ([(a_r_, .inl (g 0, n_r_, .inl r__9))] ++ (offS ad_70 tp_p_ hd_p_ tf_p_ cf_p_ g o_71)) := hD
      refine W.widen (k := 13) (n := 78) (by omega) (by omega) ?_
      refine lv_istore_n (lv' := [(3, .int r_69), (4, .int sk0_6), (0, .ref t_p_), (1, .ref a_r_), (2, .int tape)]) hx hb dL_draws_239 rfl hl (by decide) rfl (fun ls hl => ?_)
      refine lv_aload_n hx hb dL_draws_240 rfl (lv_at hl 2 rfl) ?_
      refine lv_iload_n hx hb dL_draws_241 rfl (lv_at hl 4 rfl) ?_
      refine lv_iload hx hb dL_draws_242 (lv_at hl 1 rfl) ?_
      refine lv_iconst (v := 3) hx hb dL_draws_244 (by decide) ?_
      refine lv_idiv hx hb dL_draws_245 (by decide) ?_
      refine lv_topi (fun x_72 ex_72 => ?_)
      have hw := hw x_72 ex_72
      refine lv_bipush (v := 30) hx hb dL_draws_246 (by decide) ?_
      refine lv_aload_n hx hb dL_draws_248 rfl (lv_at hl 3 rfl) ?_
      obtain ⟨hPs, hDs⟩ := seg_call (segs := [[(a_r_, .inl (g 0, n_r_, .inl r__9))], offS ad_70 tp_p_ hd_p_ tf_p_ cf_p_ g o_71]) [offS ad_70 tp_p_ hd_p_ tf_p_ cf_p_ g o_71] [[(a_r_, .inl (g 0, n_r_, .inl r__9))]] 2 [1, 0] rfl rfl (by decide) hP hD
      have hPc : va_P (dC, dI) vwCl [(a_r_, .inl (g 0, n_r_, .inl r__9))] H_69 := P_r hPs
      have hDc : va_D A [(a_r_, .inl (g 0, n_r_, .inl r__9))] := D_r hDs
      have hFc : ∀ q, va_A [(a_r_, .inl (g 0, n_r_, .inl r__9))] H_69.size q → A q := A_all hDc hA hS.1
      refine va_calli (va_runS (As := [.ref a_r_]) (rest := [.int 30, .int x_72, .int tape, .ref t_p_]) ⟨hx, hb, hml, hown, hts⟩ (c_L_next l hlf dC dI g (a_r_ := a_r_) (n_r_ := n_r_) (r_ := r__9) (hw := hw) (sz := H_69.size)) (va_cwS 1 hts (gqS aw_2_218 aw_2_219 aw_1_0 aw_2_220) rfl rfl rfl (by decide +kernel) ⟨Nat.le_of_ble_eq_true rfl, Nat.le_of_ble_eq_true rfl⟩) ⟨PG_blind, PG_call hK hG hS hPc hDc hFc⟩ rfl rfl hl.1 rfl (lv_room (Nat.le_of_ble_eq_true rfl)) dL_draws_249 ⟨by rw [hrc]; omega, by rw [hrs]; omega⟩) hS (fun q _ h => hFc q h) hFc (fun r_73 u_73 t_73 H_73 L_73 ht_73 hvm_73 hw_73 hB_73 hz_73 hk_73 hS => ?_)
      obtain ⟨r__74, u_73⟩ := u_73
      have hw := hw_73
      rw [ht_73] at hB_73
      obtain ⟨hP1, hD1⟩ := hB_73
      obtain ⟨hP, hD⟩ := join_r hPs hDs hk_73 hFc hP1 hD1
      obtain ⟨hP, hD⟩ := seg_join [offS ad_70 tp_p_ hd_p_ tf_p_ cf_p_ g o_71] [[(a_r_, .inl (g 0, n_r_, .inl r__74))]] [[(a_r_, .inl (g 0, n_r_, .inl r__74))], offS ad_70 tp_p_ hd_p_ tf_p_ cf_p_ g o_71] 2 [1, 0] rfl rfl (by decide) hP hD
      have hP : va_P (dC, dI) vwCl ([(a_r_, .inl (g 0, n_r_, .inl r__74))] ++ (offS ad_70 tp_p_ hd_p_ tf_p_ cf_p_ g o_71)) H_73 := hP
      have hD : va_D A ([(a_r_, .inl (g 0, n_r_, .inl r__74))] ++ (offS ad_70 tp_p_ hd_p_ tf_p_ cf_p_ g o_71)) := hD
      refine W.widen (k := 13) (n := 78) (by omega) (by omega) ?_
      refine lv_iconst (v := 1) hx hb dL_draws_252 (by decide) ?_
      refine lv_iushr hx hb dL_draws_253 rfl ?_
      refine lv_topi (fun x_75 ex_75 => ?_)
      have hw := hw x_75 ex_75
      obtain ⟨hPs, hDs⟩ := seg_call (segs := [[(a_r_, .inl (g 0, n_r_, .inl r__74))], offS ad_70 tp_p_ hd_p_ tf_p_ cf_p_ g o_71]) [[(a_r_, .inl (g 0, n_r_, .inl r__74))]] [offS ad_70 tp_p_ hd_p_ tf_p_ cf_p_ g o_71] 2 [0, 1] rfl rfl (by decide) hP hD
      have hPc : va_P (dC, dI) vwCl (offS ad_70 tp_p_ hd_p_ tf_p_ cf_p_ g o_71) H_73 := P_r hPs
      have hDc : va_D A (offS ad_70 tp_p_ hd_p_ tf_p_ cf_p_ g o_71) := D_r hDs
      have hFc : ∀ q, va_A (offS ad_70 tp_p_ hd_p_ tf_p_ cf_p_ g o_71) H_73.size q → A q := A_all hDc hA hS.1
      refine vx_calli (vx_runV (As := [.int tape, .int x_72, .int 30, .int x_75]) (rest := []) ⟨hx, hb, hml, hown, hts⟩ (p_scatter l hlf dC dI g tp_p_ hd_p_ tf_p_ cf_p_ htf_p_ hcf_p_ ad_70 t_p_ had_70 o_71 tape x_72 30 x_75 (hw := hw) (sz := H_73.size)) (cwV 4 hts (gqV aw_3_119 aw_3_120 aw_3_121 aw_1_1 aw_3_122) rfl rfl rfl (by decide +kernel) ⟨Nat.le_of_ble_eq_true rfl, Nat.le_of_ble_eq_true rfl⟩) ⟨PG_blind, off_recv had_70 hK hPc, PG_call hK hG hS hPc hDc hFc⟩ rfl rfl hl.1 rfl (lv_room (Nat.le_of_ble_eq_true rfl)) dL_draws_254 ⟨by rw [hrc]; omega, by rw [hrs]; omega⟩) hS (fun q _ h => hFc q h) hFc (fun q _ h => hFc q h) (fun E ce q9 ux t H1 locs1 ht hvm hp9 hB9 hz hk hS9 hce hcv hcl => ?_) (fun r_76 u_76 t_76 H_76 L_76 ht_76 hvm_76 hw_76 hB_76 hz_76 hk_76 hS => ?_)
      · exact (hB9.1.1).elim
      obtain ⟨ad_77, o_78⟩ := u_76
      obtain ⟨hw, had_77⟩ := hw_76
      rw [ht_76] at hB_76
      obtain ⟨hP1, hD1⟩ := hB_76
      obtain ⟨hP, hD⟩ := join_r hPs hDs hk_76 hFc hP1 hD1
      obtain ⟨hP, hD⟩ := seg_join [[(a_r_, .inl (g 0, n_r_, .inl r__74))]] [offS ad_77 tp_p_ hd_p_ tf_p_ cf_p_ g o_78] [[(a_r_, .inl (g 0, n_r_, .inl r__74))], offS ad_77 tp_p_ hd_p_ tf_p_ cf_p_ g o_78] 2 [0, 1] rfl rfl (by decide) hP hD
      have hP : va_P (dC, dI) vwCl ([(a_r_, .inl (g 0, n_r_, .inl r__74))] ++ (offS ad_77 tp_p_ hd_p_ tf_p_ cf_p_ g o_78)) H_76 := hP
      have hD : va_D A ([(a_r_, .inl (g 0, n_r_, .inl r__74))] ++ (offS ad_77 tp_p_ hd_p_ tf_p_ cf_p_ g o_78)) := hD
      refine W.widen (k := 17) (n := 102) (by omega) (by omega) ?_
      refine lv_istore_n (lv' := [(3, .int r_76), (4, .int sk0_6), (0, .ref t_p_), (1, .ref a_r_), (2, .int tape)]) hx hb dL_draws_257 rfl hl (by decide) rfl (fun ls hl => ?_)
      refine W.widen (k := 412) (n := 2472) (by omega) (by omega) ?_
      subst hQM
      exact W.vret hx hb hr (fun t ht hW => ⟨⟨(r__74, ad_77, o_78, ()), rfl, ⟨hw, had_77⟩, ⟨P_at ht hP, hD⟩⟩, hS.F ht⟩) hS.2.2 dL_draws_258
  refine lv_if_ne (tgt := 26) hx hb dL_draws_11 (by decide) (fun c_79 => ?_) (fun c_79 => ?_)
  · have hw := hw.2 c_79
    refine lv_aload_n hx hb dL_draws_26 rfl (lv_at hl 2 rfl) ?_
    refine lv_bipush (v := 12) hx hb dL_draws_27 (by decide) ?_
    obtain ⟨hPs, hDs⟩ := seg_call (segs := [[(a_r_, .inl (g 0, n_r_, .inl r__5))], offS ad_2 tp_p_ hd_p_ tf_p_ cf_p_ g o_3]) [offS ad_2 tp_p_ hd_p_ tf_p_ cf_p_ g o_3] [[(a_r_, .inl (g 0, n_r_, .inl r__5))]] 2 [1, 0] rfl rfl (by decide) hP hD
    have hPc : va_P (dC, dI) vwCl [(a_r_, .inl (g 0, n_r_, .inl r__5))] H_4 := P_r hPs
    have hDc : va_D A [(a_r_, .inl (g 0, n_r_, .inl r__5))] := D_r hDs
    have hFc : ∀ q, va_A [(a_r_, .inl (g 0, n_r_, .inl r__5))] H_4.size q → A q := A_all hDc hA hS.1
    refine va_calli (va_runS (As := [.ref a_r_, .int 12]) (rest := []) ⟨hx, hb, hml, hown, hts⟩ (c_L_draw l hlf dC dI g (a_r_ := a_r_) (n_r_ := n_r_) (r_ := r__5) (many := 12) (hw := hw) (sz := H_4.size)) (va_cwS 2 hts (gqS aw_2_215 aw_2_216 aw_1_0 aw_2_217) rfl rfl rfl (by decide +kernel) ⟨Nat.le_of_ble_eq_true rfl, Nat.le_of_ble_eq_true rfl⟩) ⟨PG_blind, PG_call hK hG hS hPc hDc hFc⟩ rfl rfl hl.1 rfl (lv_room (Nat.le_of_ble_eq_true rfl)) dL_draws_29 ⟨by rw [hrc]; omega, by rw [hrs]; omega⟩) hS (fun q _ h => hFc q h) hFc (fun r_80 u_80 t_80 H_80 L_80 ht_80 hvm_80 hw_80 hB_80 hz_80 hk_80 hS => ?_)
    obtain ⟨r__81, u_80⟩ := u_80
    have hw := hw_80
    rw [ht_80] at hB_80
    obtain ⟨hP1, hD1⟩ := hB_80
    obtain ⟨hP, hD⟩ := join_r hPs hDs hk_80 hFc hP1 hD1
    obtain ⟨hP, hD⟩ := seg_join [offS ad_2 tp_p_ hd_p_ tf_p_ cf_p_ g o_3] [[(a_r_, .inl (g 0, n_r_, .inl r__81))]] [[(a_r_, .inl (g 0, n_r_, .inl r__81))], offS ad_2 tp_p_ hd_p_ tf_p_ cf_p_ g o_3] 2 [1, 0] rfl rfl (by decide) hP hD
    have hP : va_P (dC, dI) vwCl ([(a_r_, .inl (g 0, n_r_, .inl r__81))] ++ (offS ad_2 tp_p_ hd_p_ tf_p_ cf_p_ g o_3)) H_80 := hP
    have hD : va_D A ([(a_r_, .inl (g 0, n_r_, .inl r__81))] ++ (offS ad_2 tp_p_ hd_p_ tf_p_ cf_p_ g o_3)) := hD
    refine W.widen (k := 1) (n := 6) (by omega) (by omega) ?_
    refine W.widen (k := 1) (n := 6) (by omega) (by omega) ?_
    exact JN32 r_80 r__81 _ _ hw hP hD hS _ (lv_sub hl [1, 2, 3] rfl)
  · have hw := hw.1 c_79
    refine lv_bipush (v := 15) hx hb dL_draws_14 (by decide) ?_
    refine lv_aload_n hx hb dL_draws_16 rfl (lv_at hl 2 rfl) ?_
    refine lv_bipush (v := 16) hx hb dL_draws_17 (by decide) ?_
    obtain ⟨hPs, hDs⟩ := seg_call (segs := [[(a_r_, .inl (g 0, n_r_, .inl r__5))], offS ad_2 tp_p_ hd_p_ tf_p_ cf_p_ g o_3]) [offS ad_2 tp_p_ hd_p_ tf_p_ cf_p_ g o_3] [[(a_r_, .inl (g 0, n_r_, .inl r__5))]] 2 [1, 0] rfl rfl (by decide) hP hD
    have hPc : va_P (dC, dI) vwCl [(a_r_, .inl (g 0, n_r_, .inl r__5))] H_4 := P_r hPs
    have hDc : va_D A [(a_r_, .inl (g 0, n_r_, .inl r__5))] := D_r hDs
    have hFc : ∀ q, va_A [(a_r_, .inl (g 0, n_r_, .inl r__5))] H_4.size q → A q := A_all hDc hA hS.1
    refine va_calli (va_runS (As := [.ref a_r_, .int 16]) (rest := [.int 15]) ⟨hx, hb, hml, hown, hts⟩ (c_L_draw l hlf dC dI g (a_r_ := a_r_) (n_r_ := n_r_) (r_ := r__5) (many := 16) (hw := hw) (sz := H_4.size)) (va_cwS 2 hts (gqS aw_2_215 aw_2_216 aw_1_0 aw_2_217) rfl rfl rfl (by decide +kernel) ⟨Nat.le_of_ble_eq_true rfl, Nat.le_of_ble_eq_true rfl⟩) ⟨PG_blind, PG_call hK hG hS hPc hDc hFc⟩ rfl rfl hl.1 rfl (lv_room (Nat.le_of_ble_eq_true rfl)) dL_draws_19 ⟨by rw [hrc]; omega, by rw [hrs]; omega⟩) hS (fun q _ h => hFc q h) hFc (fun r_82 u_82 t_82 H_82 L_82 ht_82 hvm_82 hw_82 hB_82 hz_82 hk_82 hS => ?_)
    obtain ⟨r__83, u_82⟩ := u_82
    have hw := hw_82
    rw [ht_82] at hB_82
    obtain ⟨hP1, hD1⟩ := hB_82
    obtain ⟨hP, hD⟩ := join_r hPs hDs hk_82 hFc hP1 hD1
    obtain ⟨hP, hD⟩ := seg_join [offS ad_2 tp_p_ hd_p_ tf_p_ cf_p_ g o_3] [[(a_r_, .inl (g 0, n_r_, .inl r__83))]] [[(a_r_, .inl (g 0, n_r_, .inl r__83))], offS ad_2 tp_p_ hd_p_ tf_p_ cf_p_ g o_3] 2 [1, 0] rfl rfl (by decide) hP hD
    have hP : va_P (dC, dI) vwCl ([(a_r_, .inl (g 0, n_r_, .inl r__83))] ++ (offS ad_2 tp_p_ hd_p_ tf_p_ cf_p_ g o_3)) H_82 := hP
    have hD : va_D A ([(a_r_, .inl (g 0, n_r_, .inl r__83))] ++ (offS ad_2 tp_p_ hd_p_ tf_p_ cf_p_ g o_3)) := hD
    refine W.widen (k := 1) (n := 6) (by omega) (by omega) ?_
    refine lv_iadd hx hb dL_draws_22 ?_
    refine lv_topi (fun x_84 ex_84 => ?_)
    have hw := hw x_84 ex_84
    refine lv_goto (tgt := 32) hx hb dL_draws_23 (by decide) ?_
    refine W.widen (k := 1) (n := 6) (by omega) (by omega) ?_
    exact JN32 x_84 r__83 _ _ hw hP hD hS _ (lv_sub hl [1, 2, 3] rfl)
theorem dL_areRuns_0 : decode cL_areRuns 0 = .ok (.aload_n 0, 1) := by decide +kernel
theorem dL_areRuns_1 : decode cL_areRuns 1 = .ok (.iload_n 3, 1) := by decide +kernel
theorem dL_areRuns_2 : decode cL_areRuns 2 = .ok (.iload 4, 2) := by decide +kernel
theorem dL_areRuns_4 : decode cL_areRuns 4 = .ok (.iload 5, 2) := by decide +kernel
theorem dL_areRuns_6 : decode cL_areRuns 6 = .ok (.invokevirtual 34, 3) := by decide +kernel
theorem dL_areRuns_9 : decode cL_areRuns 9 = .ok (.istore 6, 2) := by decide +kernel
theorem dL_areRuns_11 : decode cL_areRuns 11 = .ok (.aload_n 0, 1) := by decide +kernel
theorem dL_areRuns_12 : decode cL_areRuns 12 = .ok (.iload_n 2, 1) := by decide +kernel
theorem dL_areRuns_13 : decode cL_areRuns 13 = .ok (.invokestatic 120, 3) := by decide +kernel
theorem dL_areRuns_16 : decode cL_areRuns 16 = .ok (.astore 7, 2) := by decide +kernel
theorem dL_areRuns_18 : decode cL_areRuns 18 = .ok (.aload_n 0, 1) := by decide +kernel
theorem dL_areRuns_19 : decode cL_areRuns 19 = .ok (.iload_n 2, 1) := by decide +kernel
theorem dL_areRuns_20 : decode cL_areRuns 20 = .ok (.invokestatic 124, 3) := by decide +kernel
theorem dL_areRuns_23 : decode cL_areRuns 23 = .ok (.astore 8, 2) := by decide +kernel
theorem dL_areRuns_25 : decode cL_areRuns 25 = .ok (.aload 7, 2) := by decide +kernel
theorem dL_areRuns_27 : decode cL_areRuns 27 = .ok (.arraylength, 1) := by decide +kernel
theorem dL_areRuns_28 : decode cL_areRuns 28 = .ok (.newarray .int, 2) := by decide +kernel
theorem dL_areRuns_30 : decode cL_areRuns 30 = .ok (.astore 9, 2) := by decide +kernel
theorem dL_areRuns_32 : decode cL_areRuns 32 = .ok (.iconst 0, 1) := by decide +kernel
theorem dL_areRuns_33 : decode cL_areRuns 33 = .ok (.istore 10, 2) := by decide +kernel
theorem dL_areRuns_35 : decode cL_areRuns 35 = .ok (.iconst 0, 1) := by decide +kernel
theorem dL_areRuns_36 : decode cL_areRuns 36 = .ok (.istore 11, 2) := by decide +kernel
theorem dL_areRuns_55 : decode cL_areRuns 55 = .ok (.iconst 0, 1) := by decide +kernel
theorem dL_areRuns_56 : decode cL_areRuns 56 = .ok (.ireturn, 1) := by decide +kernel
theorem dL_areRuns_109 : decode cL_areRuns 109 = .ok (.iconst 0, 1) := by decide +kernel
theorem dL_areRuns_110 : decode cL_areRuns 110 = .ok (.ireturn, 1) := by decide +kernel
theorem dL_areRuns_216 : decode cL_areRuns 216 = .ok (.iconst 0, 1) := by decide +kernel
theorem dL_areRuns_217 : decode cL_areRuns 217 = .ok (.ireturn, 1) := by decide +kernel
theorem dL_areRuns_224 : decode cL_areRuns 224 = .ok (.iload 10, 2) := by decide +kernel
theorem dL_areRuns_226 : decode cL_areRuns 226 = .ok (.aload 7, 2) := by decide +kernel
theorem dL_areRuns_228 : decode cL_areRuns 228 = .ok (.arraylength, 1) := by decide +kernel
theorem dL_areRuns_229 : decode cL_areRuns 229 = .ok (.if_icmp .ne 80, 3) := by decide +kernel
theorem dL_areRuns_309 : decode cL_areRuns 309 = .ok (.iconst 0, 1) := by decide +kernel
theorem dL_areRuns_310 : decode cL_areRuns 310 = .ok (.ireturn, 1) := by decide +kernel
theorem dL_areRuns_232 : decode cL_areRuns 232 = .ok (.aload_n 0, 1) := by decide +kernel
theorem dL_areRuns_233 : decode cL_areRuns 233 = .ok (.aload 9, 2) := by decide +kernel
theorem dL_areRuns_235 : decode cL_areRuns 235 = .ok (.iload_n 3, 1) := by decide +kernel
theorem dL_areRuns_236 : decode cL_areRuns 236 = .ok (.invokestatic 132, 3) := by decide +kernel
theorem dL_areRuns_239 : decode cL_areRuns 239 = .ok (.aload_n 0, 1) := by decide +kernel
theorem dL_areRuns_240 : decode cL_areRuns 240 = .ok (.aload 7, 2) := by decide +kernel
theorem dL_areRuns_242 : decode cL_areRuns 242 = .ok (.iload_n 3, 1) := by decide +kernel
theorem dL_areRuns_243 : decode cL_areRuns 243 = .ok (.invokestatic 132, 3) := by decide +kernel
theorem dL_areRuns_246 : decode cL_areRuns 246 = .ok (.invokestatic 136, 3) := by decide +kernel
theorem dL_areRuns_249 : decode cL_areRuns 249 = .ok (.ifCond .eq 60, 3) := by decide +kernel
theorem dL_areRuns_252 : decode cL_areRuns 252 = .ok (.iload 4, 2) := by decide +kernel
theorem dL_areRuns_254 : decode cL_areRuns 254 = .ok (.iconst 2, 1) := by decide +kernel
theorem dL_areRuns_268 : decode cL_areRuns 268 = .ok (.aload_n 0, 1) := by decide +kernel
theorem dL_areRuns_269 : decode cL_areRuns 269 = .ok (.bipush 6, 2) := by decide +kernel
theorem dL_areRuns_271 : decode cL_areRuns 271 = .ok (.iload_n 2, 1) := by decide +kernel
theorem dL_areRuns_272 : decode cL_areRuns 272 = .ok (.aload 8, 2) := by decide +kernel
theorem dL_areRuns_274 : decode cL_areRuns 274 = .ok (.arraylength, 1) := by decide +kernel
theorem dL_areRuns_275 : decode cL_areRuns 275 = .ok (.iconst 0, 1) := by decide +kernel
theorem dL_areRuns_276 : decode cL_areRuns 276 = .ok (.invokestatic 140, 3) := by decide +kernel
theorem dL_areRuns_279 : decode cL_areRuns 279 = .ok (.sipush (-20001), 3) := by decide +kernel
theorem dL_areRuns_282 : decode cL_areRuns 282 = .ok (.if_icmp .ne 27, 3) := by decide +kernel
theorem dL_areRuns_285 : decode cL_areRuns 285 = .ok (.aload 8, 2) := by decide +kernel
theorem dL_areRuns_287 : decode cL_areRuns 287 = .ok (.arraylength, 1) := by decide +kernel
theorem dL_areRuns_311 : decode cL_areRuns 311 = .ok (.iload 4, 2) := by decide +kernel
theorem dL_areRuns_313 : decode cL_areRuns 313 = .ok (.iconst 1, 1) := by decide +kernel
theorem dL_areRuns_314 : decode cL_areRuns 314 = .ok (.if_icmp .ne 76, 3) := by decide +kernel
theorem dL_areRuns_390 : decode cL_areRuns 390 = .ok (.iconst 1, 1) := by decide +kernel
theorem dL_areRuns_391 : decode cL_areRuns 391 = .ok (.ireturn, 1) := by decide +kernel
theorem dL_areRuns_317 : decode cL_areRuns 317 = .ok (.aload_n 0, 1) := by decide +kernel
theorem dL_areRuns_318 : decode cL_areRuns 318 = .ok (.iload_n 3, 1) := by decide +kernel
theorem dL_areRuns_319 : decode cL_areRuns 319 = .ok (.iconst 2, 1) := by decide +kernel
theorem dL_areRuns_320 : decode cL_areRuns 320 = .ok (.iload 5, 2) := by decide +kernel
theorem dL_areRuns_322 : decode cL_areRuns 322 = .ok (.invokevirtual 34, 3) := by decide +kernel
theorem dL_areRuns_325 : decode cL_areRuns 325 = .ok (.istore 6, 2) := by decide +kernel
theorem dL_areRuns_327 : decode cL_areRuns 327 = .ok (.aload_n 0, 1) := by decide +kernel
theorem dL_areRuns_328 : decode cL_areRuns 328 = .ok (.iload_n 2, 1) := by decide +kernel
theorem dL_areRuns_329 : decode cL_areRuns 329 = .ok (.invokevirtual 114, 3) := by decide +kernel
theorem dL_areRuns_332 : decode cL_areRuns 332 = .ok (.aload 8, 2) := by decide +kernel
theorem dL_areRuns_334 : decode cL_areRuns 334 = .ok (.arraylength, 1) := by decide +kernel
theorem dL_areRuns_335 : decode cL_areRuns 335 = .ok (.if_icmp .lt 42, 3) := by decide +kernel
theorem dL_areRuns_377 : decode cL_areRuns 377 = .ok (.iconst 0, 1) := by decide +kernel
theorem dL_areRuns_378 : decode cL_areRuns 378 = .ok (.ireturn, 1) := by decide +kernel
theorem dL_areRuns_338 : decode cL_areRuns 338 = .ok (.aload_n 0, 1) := by decide +kernel
theorem dL_areRuns_339 : decode cL_areRuns 339 = .ok (.iload_n 2, 1) := by decide +kernel
theorem dL_areRuns_340 : decode cL_areRuns 340 = .ok (.iload_n 3, 1) := by decide +kernel
theorem dL_areRuns_341 : decode cL_areRuns 341 = .ok (.invokevirtual 144, 3) := by decide +kernel
theorem dL_areRuns_344 : decode cL_areRuns 344 = .ok (.aload_n 0, 1) := by decide +kernel
theorem dL_areRuns_345 : decode cL_areRuns 345 = .ok (.iload_n 2, 1) := by decide +kernel
theorem dL_areRuns_346 : decode cL_areRuns 346 = .ok (.invokevirtual 114, 3) := by decide +kernel
theorem dL_areRuns_349 : decode cL_areRuns 349 = .ok (.iconst 1, 1) := by decide +kernel
theorem dL_areRuns_358 : decode cL_areRuns 358 = .ok (.if_icmp .ne 19, 3) := by decide +kernel
theorem dL_areRuns_361 : decode cL_areRuns 361 = .ok (.aload_n 0, 1) := by decide +kernel
theorem dL_areRuns_362 : decode cL_areRuns 362 = .ok (.iload_n 2, 1) := by decide +kernel
theorem dL_areRuns_363 : decode cL_areRuns 363 = .ok (.iload_n 3, 1) := by decide +kernel
theorem dL_areRuns_364 : decode cL_areRuns 364 = .ok (.invokevirtual 144, 3) := by decide +kernel
theorem dL_areRuns_379 : decode cL_areRuns 379 = .ok (.aload_n 0, 1) := by decide +kernel
theorem dL_areRuns_380 : decode cL_areRuns 380 = .ok (.iload_n 3, 1) := by decide +kernel
theorem dL_areRuns_381 : decode cL_areRuns 381 = .ok (.iload 4, 2) := by decide +kernel
theorem dL_areRuns_383 : decode cL_areRuns 383 = .ok (.iload 5, 2) := by decide +kernel
theorem dL_areRuns_385 : decode cL_areRuns 385 = .ok (.invokevirtual 34, 3) := by decide +kernel
theorem dL_areRuns_388 : decode cL_areRuns 388 = .ok (.istore 6, 2) := by decide +kernel
theorem dL_areRuns_367 : decode cL_areRuns 367 = .ok (.ifCond .eq 12, 3) := by decide +kernel
theorem dL_areRuns_370 : decode cL_areRuns 370 = .ok (.aload 8, 2) := by decide +kernel
theorem dL_areRuns_372 : decode cL_areRuns 372 = .ok (.arraylength, 1) := by decide +kernel
theorem dL_areRuns_373 : decode cL_areRuns 373 = .ok (.iconst 1, 1) := by decide +kernel
theorem dL_areRuns_374 : decode cL_areRuns 374 = .ok (.if_icmp .le 5, 3) := by decide +kernel
theorem dL_areRuns_350 : decode cL_areRuns 350 = .ok (.if_icmp .gt 7, 3) := by decide +kernel
theorem dL_areRuns_357 : decode cL_areRuns 357 = .ok (.iconst 0, 1) := by decide +kernel
theorem dL_areRuns_353 : decode cL_areRuns 353 = .ok (.iconst 1, 1) := by decide +kernel
theorem dL_areRuns_354 : decode cL_areRuns 354 = .ok (.goto 4, 3) := by decide +kernel
theorem dL_areRuns_288 : decode cL_areRuns 288 = .ok (.ifCond .le 23, 3) := by decide +kernel
theorem dL_areRuns_291 : decode cL_areRuns 291 = .ok (.aload_n 0, 1) := by decide +kernel
theorem dL_areRuns_292 : decode cL_areRuns 292 = .ok (.bipush 6, 2) := by decide +kernel
theorem dL_areRuns_294 : decode cL_areRuns 294 = .ok (.iload_n 2, 1) := by decide +kernel
theorem dL_areRuns_295 : decode cL_areRuns 295 = .ok (.iconst 0, 1) := by decide +kernel
theorem dL_areRuns_296 : decode cL_areRuns 296 = .ok (.aload 8, 2) := by decide +kernel
theorem dL_areRuns_298 : decode cL_areRuns 298 = .ok (.iconst 0, 1) := by decide +kernel
theorem dL_areRuns_299 : decode cL_areRuns 299 = .ok (.iaload, 1) := by decide +kernel
theorem dL_areRuns_300 : decode cL_areRuns 300 = .ok (.invokestatic 140, 3) := by decide +kernel
theorem dL_areRuns_303 : decode cL_areRuns 303 = .ok (.sipush (-20001), 3) := by decide +kernel
theorem dL_areRuns_306 : decode cL_areRuns 306 = .ok (.if_icmp .eq 5, 3) := by decide +kernel
theorem dL_areRuns_255 : decode cL_areRuns 255 = .ok (.if_icmp .ne 13, 3) := by decide +kernel
theorem dL_areRuns_258 : decode cL_areRuns 258 = .ok (.aload 9, 2) := by decide +kernel
theorem dL_areRuns_260 : decode cL_areRuns 260 = .ok (.aload 7, 2) := by decide +kernel
theorem dL_areRuns_262 : decode cL_areRuns 262 = .ok (.invokestatic 136, 3) := by decide +kernel
theorem dL_areRuns_265 : decode cL_areRuns 265 = .ok (.ifCond .eq 44, 3) := by decide +kernel
theorem dL_areRuns_38 : decode cL_areRuns 38 = .ok (.iload 11, 2) := by decide +kernel
theorem dL_areRuns_40 : decode cL_areRuns 40 = .ok (.aload 8, 2) := by decide +kernel
theorem dL_areRuns_42 : decode cL_areRuns 42 = .ok (.arraylength, 1) := by decide +kernel
theorem dL_areRuns_43 : decode cL_areRuns 43 = .ok (.if_icmp .ge 181, 3) := by decide +kernel
theorem dL_areRuns_46 : decode cL_areRuns 46 = .ok (.aload 8, 2) := by decide +kernel
theorem dL_areRuns_48 : decode cL_areRuns 48 = .ok (.iload 11, 2) := by decide +kernel
theorem dL_areRuns_50 : decode cL_areRuns 50 = .ok (.iaload, 1) := by decide +kernel
theorem dL_areRuns_51 : decode cL_areRuns 51 = .ok (.iconst 1, 1) := by decide +kernel
theorem dL_areRuns_52 : decode cL_areRuns 52 = .ok (.if_icmp .ge 5, 3) := by decide +kernel
theorem dL_areRuns_57 : decode cL_areRuns 57 = .ok (.iconst 0, 1) := by decide +kernel
theorem dL_areRuns_58 : decode cL_areRuns 58 = .ok (.istore 12, 2) := by decide +kernel
theorem dL_areRuns_120 : decode cL_areRuns 120 = .ok (.iload 4, 2) := by decide +kernel
theorem dL_areRuns_147 : decode cL_areRuns 147 = .ok (.iload 4, 2) := by decide +kernel
theorem dL_areRuns_149 : decode cL_areRuns 149 = .ok (.iconst 1, 1) := by decide +kernel
theorem dL_areRuns_173 : decode cL_areRuns 173 = .ok (.iload 4, 2) := by decide +kernel
theorem dL_areRuns_175 : decode cL_areRuns 175 = .ok (.iconst 2, 1) := by decide +kernel
theorem dL_areRuns_176 : decode cL_areRuns 176 = .ok (.if_icmp .ne 42, 3) := by decide +kernel
theorem dL_areRuns_218 : decode cL_areRuns 218 = .ok (.iinc 11 1, 3) := by decide +kernel
theorem dL_areRuns_221 : decode cL_areRuns 221 = .ok (.goto (-183), 3) := by decide +kernel
theorem dL_areRuns_179 : decode cL_areRuns 179 = .ok (.iload 11, 2) := by decide +kernel
theorem dL_areRuns_181 : decode cL_areRuns 181 = .ok (.ifCond .le 37, 3) := by decide +kernel
theorem dL_areRuns_184 : decode cL_areRuns 184 = .ok (.aload_n 0, 1) := by decide +kernel
theorem dL_areRuns_185 : decode cL_areRuns 185 = .ok (.aload 7, 2) := by decide +kernel
theorem dL_areRuns_187 : decode cL_areRuns 187 = .ok (.iload 10, 2) := by decide +kernel
theorem dL_areRuns_189 : decode cL_areRuns 189 = .ok (.aload 8, 2) := by decide +kernel
theorem dL_areRuns_191 : decode cL_areRuns 191 = .ok (.iload 11, 2) := by decide +kernel
theorem dL_areRuns_193 : decode cL_areRuns 193 = .ok (.iaload, 1) := by decide +kernel
theorem dL_areRuns_194 : decode cL_areRuns 194 = .ok (.isub, 1) := by decide +kernel
theorem dL_areRuns_195 : decode cL_areRuns 195 = .ok (.iaload, 1) := by decide +kernel
theorem dL_areRuns_196 : decode cL_areRuns 196 = .ok (.aload 7, 2) := by decide +kernel
theorem dL_areRuns_198 : decode cL_areRuns 198 = .ok (.iload 10, 2) := by decide +kernel
theorem dL_areRuns_200 : decode cL_areRuns 200 = .ok (.aload 8, 2) := by decide +kernel
theorem dL_areRuns_202 : decode cL_areRuns 202 = .ok (.iload 11, 2) := by decide +kernel
theorem dL_areRuns_204 : decode cL_areRuns 204 = .ok (.iaload, 1) := by decide +kernel
theorem dL_areRuns_205 : decode cL_areRuns 205 = .ok (.isub, 1) := by decide +kernel
theorem dL_areRuns_206 : decode cL_areRuns 206 = .ok (.iconst 1, 1) := by decide +kernel
theorem dL_areRuns_207 : decode cL_areRuns 207 = .ok (.isub, 1) := by decide +kernel
theorem dL_areRuns_208 : decode cL_areRuns 208 = .ok (.iaload, 1) := by decide +kernel
theorem dL_areRuns_209 : decode cL_areRuns 209 = .ok (.iload_n 3, 1) := by decide +kernel
theorem dL_areRuns_210 : decode cL_areRuns 210 = .ok (.invokestatic 96, 3) := by decide +kernel
theorem dL_areRuns_213 : decode cL_areRuns 213 = .ok (.ifCond .ne 5, 3) := by decide +kernel
theorem dL_areRuns_150 : decode cL_areRuns 150 = .ok (.if_icmp .ne 23, 3) := by decide +kernel
theorem dL_areRuns_153 : decode cL_areRuns 153 = .ok (.iload 11, 2) := by decide +kernel
theorem dL_areRuns_155 : decode cL_areRuns 155 = .ok (.aload 8, 2) := by decide +kernel
theorem dL_areRuns_157 : decode cL_areRuns 157 = .ok (.arraylength, 1) := by decide +kernel
theorem dL_areRuns_158 : decode cL_areRuns 158 = .ok (.iconst 1, 1) := by decide +kernel
theorem dL_areRuns_159 : decode cL_areRuns 159 = .ok (.isub, 1) := by decide +kernel
theorem dL_areRuns_160 : decode cL_areRuns 160 = .ok (.if_icmp .ge 13, 3) := by decide +kernel
theorem dL_areRuns_163 : decode cL_areRuns 163 = .ok (.aload 8, 2) := by decide +kernel
theorem dL_areRuns_165 : decode cL_areRuns 165 = .ok (.iload 11, 2) := by decide +kernel
theorem dL_areRuns_167 : decode cL_areRuns 167 = .ok (.iaload, 1) := by decide +kernel
theorem dL_areRuns_168 : decode cL_areRuns 168 = .ok (.iload 5, 2) := by decide +kernel
theorem dL_areRuns_170 : decode cL_areRuns 170 = .ok (.if_icmp .lt 46, 3) := by decide +kernel
theorem dL_areRuns_122 : decode cL_areRuns 122 = .ok (.ifCond .ne 25, 3) := by decide +kernel
theorem dL_areRuns_125 : decode cL_areRuns 125 = .ok (.aload 8, 2) := by decide +kernel
theorem dL_areRuns_127 : decode cL_areRuns 127 = .ok (.iload 11, 2) := by decide +kernel
theorem dL_areRuns_129 : decode cL_areRuns 129 = .ok (.iaload, 1) := by decide +kernel
theorem dL_areRuns_130 : decode cL_areRuns 130 = .ok (.iload 5, 2) := by decide +kernel
theorem dL_areRuns_132 : decode cL_areRuns 132 = .ok (.aload 7, 2) := by decide +kernel
theorem dL_areRuns_134 : decode cL_areRuns 134 = .ok (.arraylength, 1) := by decide +kernel
theorem dL_areRuns_135 : decode cL_areRuns 135 = .ok (.iload 11, 2) := by decide +kernel
theorem dL_areRuns_137 : decode cL_areRuns 137 = .ok (.iload 5, 2) := by decide +kernel
theorem dL_areRuns_139 : decode cL_areRuns 139 = .ok (.imul, 1) := by decide +kernel
theorem dL_areRuns_140 : decode cL_areRuns 140 = .ok (.isub, 1) := by decide +kernel
theorem dL_areRuns_141 : decode cL_areRuns 141 = .ok (.invokestatic 127, 3) := by decide +kernel
theorem dL_areRuns_144 : decode cL_areRuns 144 = .ok (.if_icmp .ne 72, 3) := by decide +kernel
theorem dL_areRuns_60 : decode cL_areRuns 60 = .ok (.iload 12, 2) := by decide +kernel
theorem dL_areRuns_62 : decode cL_areRuns 62 = .ok (.aload 8, 2) := by decide +kernel
theorem dL_areRuns_64 : decode cL_areRuns 64 = .ok (.iload 11, 2) := by decide +kernel
theorem dL_areRuns_66 : decode cL_areRuns 66 = .ok (.iaload, 1) := by decide +kernel
theorem dL_areRuns_67 : decode cL_areRuns 67 = .ok (.if_icmp .ge 53, 3) := by decide +kernel
theorem dL_areRuns_70 : decode cL_areRuns 70 = .ok (.aload 9, 2) := by decide +kernel
theorem dL_areRuns_72 : decode cL_areRuns 72 = .ok (.iload 10, 2) := by decide +kernel
theorem dL_areRuns_74 : decode cL_areRuns 74 = .ok (.aload_n 0, 1) := by decide +kernel
theorem dL_areRuns_75 : decode cL_areRuns 75 = .ok (.iload_n 2, 1) := by decide +kernel
theorem dL_areRuns_76 : decode cL_areRuns 76 = .ok (.iload 11, 2) := by decide +kernel
theorem dL_areRuns_78 : decode cL_areRuns 78 = .ok (.iload 12, 2) := by decide +kernel
theorem dL_areRuns_80 : decode cL_areRuns 80 = .ok (.invokevirtual 40, 3) := by decide +kernel
theorem dL_areRuns_83 : decode cL_areRuns 83 = .ok (.iastore, 1) := by decide +kernel
theorem dL_areRuns_84 : decode cL_areRuns 84 = .ok (.iload 12, 2) := by decide +kernel
theorem dL_areRuns_86 : decode cL_areRuns 86 = .ok (.ifCond .le 25, 3) := by decide +kernel
theorem dL_areRuns_111 : decode cL_areRuns 111 = .ok (.iinc 10 1, 3) := by decide +kernel
theorem dL_areRuns_114 : decode cL_areRuns 114 = .ok (.iinc 12 1, 3) := by decide +kernel
theorem dL_areRuns_117 : decode cL_areRuns 117 = .ok (.goto (-57), 3) := by decide +kernel
theorem dL_areRuns_89 : decode cL_areRuns 89 = .ok (.aload_n 0, 1) := by decide +kernel
theorem dL_areRuns_90 : decode cL_areRuns 90 = .ok (.aload 9, 2) := by decide +kernel
theorem dL_areRuns_92 : decode cL_areRuns 92 = .ok (.iload 10, 2) := by decide +kernel
theorem dL_areRuns_94 : decode cL_areRuns 94 = .ok (.iaload, 1) := by decide +kernel
theorem dL_areRuns_95 : decode cL_areRuns 95 = .ok (.aload 9, 2) := by decide +kernel
theorem dL_areRuns_97 : decode cL_areRuns 97 = .ok (.iload 10, 2) := by decide +kernel
theorem dL_areRuns_99 : decode cL_areRuns 99 = .ok (.iconst 1, 1) := by decide +kernel
theorem dL_areRuns_100 : decode cL_areRuns 100 = .ok (.isub, 1) := by decide +kernel
theorem dL_areRuns_101 : decode cL_areRuns 101 = .ok (.iaload, 1) := by decide +kernel
theorem dL_areRuns_102 : decode cL_areRuns 102 = .ok (.iload_n 3, 1) := by decide +kernel
theorem dL_areRuns_103 : decode cL_areRuns 103 = .ok (.invokestatic 96, 3) := by decide +kernel
theorem dL_areRuns_106 : decode cL_areRuns 106 = .ok (.ifCond .eq 5, 3) := by decide +kernel

set_option maxHeartbeats 8000000 in
set_option maxRecDepth 100000 in
theorem c_L_areRuns (l : Launch) (hlf : l.stackTraces = false) (dC : Nat → ClassId) (dI : Nat → Nat → Nat) (g : Nat → ClassId) (tp_p_ hd_p_ : Nat → Nat) (tf_p_ cf_p_ : Nat → Option Nat) (htf_p_ : ∀ j, j < 8 → tf_p_ j = some (tp_p_ j)) (hcf_p_ : ∀ j, j < 8 → cf_p_ j = some (tp_p_ (8 + j))) (a_p_ : Nat → Nat) (t_p_ : Nat) (h_p_ : a_p_ 0 = t_p_) (o_p_ : OS) (a_r_ n_r_ : Nat) (r_ : Nat → Int32) (tape : Int32) (order : Int32) (way : Int32) (memory : Int32) (Q : Bool → OS → Prop) (hw : wp_L_areRuns o_p_ tape order way memory Q) (sz : Nat) : Met l yL_areRuns wqL_areRuns ({ frames := 10, cells := 16392, slots := 99322, locals := 174 }) (va_Pc [.ref t_p_, .ref a_r_, .int tape, .int order, .int way, .int memory] (PG (dC, dI) g ([(a_r_, .inl (g 0, n_r_, .inl r_))] ++ (offS a_p_ tp_p_ hd_p_ tf_p_ cf_p_ g o_p_)) sz)) (va_Qi (fun (r : Int32) (u : (Nat → Nat) × OS × Unit) => ∃ b : Bool, r = b2i b ∧ (Q b u.2.1 ∧ u.1 0 = t_p_)) (fun (u : (Nat → Nat) × OS × Unit) t9 => va_P (dC, dI) vwCl ([(a_r_, .inl (g 0, n_r_, .inl r_))] ++ (offS u.1 tp_p_ hd_p_ tf_p_ cf_p_ g u.2.1)) t9.heap ∧ va_D (va_A ([(a_r_, .inl (g 0, n_r_, .inl r_))] ++ (offS a_p_ tp_p_ hd_p_ tf_p_ cf_p_ g o_p_)) sz) ([(a_r_, .inl (g 0, n_r_, .inl r_))] ++ (offS u.1 tp_p_ hd_p_ tf_p_ cf_p_ g u.2.1))) (va_A ([(a_r_, .inl (g 0, n_r_, .inl r_))] ++ (offS a_p_ tp_p_ hd_p_ tf_p_ cf_p_ g o_p_)) sz)) 16392 99322 (va_A ([(a_r_, .inl (g 0, n_r_, .inl r_))] ++ (offS a_p_ tp_p_ hd_p_ tf_p_ cf_p_ g o_p_)) sz) := by
  refine Met.ofW (cc := cL_areRuns) (maxL := 13) (ret := (some .boolean)) (by decide) rfl ?_
  intro p e s m args below meth c s₁ B hml hv
  obtain ⟨rfl, hsz, hP, hK, hD0, hG⟩ := hv
  have hx := B.exec
  have hb := B.bytes
  have hr := B.returns
  have hts := atoms_spec (ws := wqL_areRuns) B.pre
  have hown : s.vm.findClass RL = some m.cls := findClass_of_methodNamed B.named
  have hlocks := B.notSynchronized
  subst hsz
  have hD := hD0.self (sz := s.heap.size)
  generalize hAe : va_A ([(a_r_, .inl (g 0, n_r_, .inl r_))] ++ (offS a_p_ tp_p_ hd_p_ tf_p_ cf_p_ g o_p_)) s.heap.size = A at hD hG ⊢
  have hA : ∀ q : Nat, s.heap.size ≤ q → A q := fun q h => by rw [← hAe]; exact Or.inr h
  have hS : va_S A s.heap s.heap [] := va_S.rf
  have hrc : (headSpec wqL_areRuns ({ frames := 10, cells := 16392, slots := 99322, locals := 174 })).room.cells = 16392 := rfl
  have hrs : (headSpec wqL_areRuns ({ frames := 10, cells := 16392, slots := 99322, locals := 174 })).room.slots = 99322 := rfl
  have hl := lv_entry ([.ref t_p_, .ref a_r_, .int tape, .int order, .int way, .int memory]) (n := 13) (Nat.le_of_ble_eq_true rfl)
  rw [lg_entry_eq]
  generalize (lg_sl ([.ref t_p_, .ref a_r_, .int tape, .int order, .int way, .int memory]) ++ List.replicate (13 - (lg_sl ([.ref t_p_, .ref a_r_, .int tape, .int order, .int way, .int memory])).length) Slot.unset).toArray = ls at hl ⊢
  have hl : lv_has ls 13 [(0, .ref t_p_), (1, .ref a_r_), (2, .int tape), (3, .int order), (4, .int way), (5, .int memory)] := hl
  unfold wp_L_areRuns at hw
  have hnaint := hts (Cond.arrayClass .int) (aw_l aw_1_57)
  have hmmin127_0 := hts (Cond.methodLink RL 127 Lib.Math.min.name) (aw_l aw_4_38)
  have hmmin127_1 := hts (Cond.static Lib.Math.min.name) (aw_l aw_3_141)
  have hmmin127_2 := hts (Cond.initialized "java/lang/Math") (aw_l aw_1_19)
  have hmmin127_3 := hts (Cond.code Lib.Math.min.name Lib.Math.min.code 2 (some .int)) (aw_l aw_3_142)
  refine lv_aload_n hx hb dL_areRuns_0 rfl (lv_at hl 0 rfl) ?_
  refine lv_iload_n hx hb dL_areRuns_1 rfl (lv_at hl 3 rfl) ?_
  refine lv_iload hx hb dL_areRuns_2 (lv_at hl 4 rfl) ?_
  refine lv_iload hx hb dL_areRuns_4 (lv_at hl 5 rfl) ?_
  obtain ⟨hPs, hDs⟩ := seg_call (segs := [[(a_r_, .inl (g 0, n_r_, .inl r_))], offS a_p_ tp_p_ hd_p_ tf_p_ cf_p_ g o_p_]) [[(a_r_, .inl (g 0, n_r_, .inl r_))]] [offS a_p_ tp_p_ hd_p_ tf_p_ cf_p_ g o_p_] 2 [0, 1] rfl rfl (by decide) hP hD
  have hPc : va_P (dC, dI) vwCl (offS a_p_ tp_p_ hd_p_ tf_p_ cf_p_ g o_p_) s.heap := P_r hPs
  have hDc : va_D A (offS a_p_ tp_p_ hd_p_ tf_p_ cf_p_ g o_p_) := D_r hDs
  have hFc : ∀ q, va_A (offS a_p_ tp_p_ hd_p_ tf_p_ cf_p_ g o_p_) s.heap.size q → A q := A_all hDc hA hS.1
  refine vx_calli (vx_runV (As := [.int order, .int way, .int memory]) (rest := []) ⟨hx, hb, hml, hown, hts⟩ (p_setRuns l hlf dC dI g tp_p_ hd_p_ tf_p_ cf_p_ htf_p_ hcf_p_ a_p_ t_p_ h_p_ o_p_ order way memory (hw := hw) (sz := s.heap.size)) (cwV 3 hts (gqV aw_3_154 aw_3_155 aw_3_156 aw_1_1 aw_3_157) rfl rfl rfl (by decide +kernel) ⟨Nat.le_of_ble_eq_true rfl, Nat.le_of_ble_eq_true rfl⟩) ⟨PG_blind, off_recv h_p_ hK hPc, PG_call hK hG hS hPc hDc hFc⟩ rfl rfl hl.1 rfl (lv_room (Nat.le_of_ble_eq_true rfl)) dL_areRuns_6 ⟨by rw [hrc]; omega, by rw [hrs]; omega⟩) hS (fun q _ h => hFc q h) hFc (fun q _ h => hFc q h) (fun E ce q9 ux t H1 locs1 ht hvm hp9 hB9 hz hk hS9 hce hcv hcl => ?_) (fun r_1 u_1 t_1 H_1 L_1 ht_1 hvm_1 hw_1 hB_1 hz_1 hk_1 hS => ?_)
  · exact (hB9.1.1).elim
  obtain ⟨ad_2, o_3⟩ := u_1
  obtain ⟨hw, had_2⟩ := hw_1
  rw [ht_1] at hB_1
  obtain ⟨hP1, hD1⟩ := hB_1
  obtain ⟨hP, hD⟩ := join_r hPs hDs hk_1 hFc hP1 hD1
  obtain ⟨hP, hD⟩ := seg_join [[(a_r_, .inl (g 0, n_r_, .inl r_))]] [offS ad_2 tp_p_ hd_p_ tf_p_ cf_p_ g o_3] [[(a_r_, .inl (g 0, n_r_, .inl r_))], offS ad_2 tp_p_ hd_p_ tf_p_ cf_p_ g o_3] 2 [0, 1] rfl rfl (by decide) hP hD
  have hP : va_P (dC, dI) vwCl ([(a_r_, .inl (g 0, n_r_, .inl r_))] ++ (offS ad_2 tp_p_ hd_p_ tf_p_ cf_p_ g o_3)) H_1 := hP
  have hD : va_D A ([(a_r_, .inl (g 0, n_r_, .inl r_))] ++ (offS ad_2 tp_p_ hd_p_ tf_p_ cf_p_ g o_3)) := hD
  refine W.widen (k := 3) (n := 18) (by omega) (by omega) ?_
  refine lv_istore (lv' := [(6, .int r_1), (0, .ref t_p_), (1, .ref a_r_), (2, .int tape), (3, .int order), (4, .int way), (5, .int memory)]) hx hb dL_areRuns_9 hl (by decide) rfl (fun ls hl => ?_)
  refine lv_aload_n hx hb dL_areRuns_11 rfl (lv_at hl 1 rfl) ?_
  refine lv_iload_n hx hb dL_areRuns_12 rfl (lv_at hl 3 rfl) ?_
  obtain ⟨hPs, hDs⟩ := seg_call (segs := [[(a_r_, .inl (g 0, n_r_, .inl r_))], offS ad_2 tp_p_ hd_p_ tf_p_ cf_p_ g o_3]) [[(a_r_, .inl (g 0, n_r_, .inl r_))]] [offS ad_2 tp_p_ hd_p_ tf_p_ cf_p_ g o_3] 2 [0, 1] rfl rfl (by decide) hP hD
  have hPc : va_P (dC, dI) vwCl (offS ad_2 tp_p_ hd_p_ tf_p_ cf_p_ g o_3) H_1 := P_r hPs
  have hDc : va_D A (offS ad_2 tp_p_ hd_p_ tf_p_ cf_p_ g o_3) := D_r hDs
  have hFc : ∀ q, va_A (offS ad_2 tp_p_ hd_p_ tf_p_ cf_p_ g o_3) H_1.size q → A q := A_all hDc hA hS.1
  refine va_callq (va_runS (As := [.ref t_p_, .int tape]) (rest := []) ⟨hx, hb, hml, hown, hts⟩ (c_L_tape l hlf dC dI g (tp_p_ := tp_p_) (hd_p_ := hd_p_) (tf_p_ := tf_p_) (cf_p_ := cf_p_) (htf_p_ := htf_p_) (hcf_p_ := hcf_p_) (a_p_ := ad_2) (t_p_ := t_p_) (h_p_ := had_2) (o_p_ := o_3) (tape := tape) (hw := hw) (sz := H_1.size)) (va_cwS 2 hts (gqS aw_3_158 aw_3_159 aw_1_0 aw_3_160) rfl rfl rfl (by decide +kernel) ⟨Nat.le_of_ble_eq_true rfl, Nat.le_of_ble_eq_true rfl⟩) ⟨PG_blind, PG_call hK hG hS hPc hDc hFc⟩ rfl rfl hl.1 rfl (lv_room (Nat.le_of_ble_eq_true rfl)) dL_areRuns_13 ⟨by rw [hrc]; omega, by rw [hrs]; omega⟩) hS (fun q _ h => hFc q h) hFc (fun r_4 u_4 t_4 H_4 L_4 ht_4 hvm_4 hw_4 hB_4 hz_4 hk_4 hS => ?_)
  obtain ⟨ad_5, o_6, a_q_7, n_8, q_9, u_4⟩ := u_4
  obtain ⟨rfl, ⟨hw, had_5⟩⟩ := hw_4
  rw [ht_4] at hB_4
  obtain ⟨hP1, hD1⟩ := hB_4
  obtain ⟨hP, hD⟩ := join_r hPs hDs hk_4 hFc hP1 hD1
  obtain ⟨hP, hD⟩ := seg_join [[(a_r_, .inl (g 0, n_r_, .inl r_))]] [[(a_q_7, .inl (g 0, n_8, .inl q_9))], offS ad_5 tp_p_ hd_p_ tf_p_ cf_p_ g o_6] [[(a_r_, .inl (g 0, n_r_, .inl r_))], [(a_q_7, .inl (g 0, n_8, .inl q_9))], offS ad_5 tp_p_ hd_p_ tf_p_ cf_p_ g o_6] 3 [0, 1, 2] rfl rfl (by decide) hP hD
  have hP : va_P (dC, dI) vwCl ([(a_r_, .inl (g 0, n_r_, .inl r_)), (a_q_7, .inl (g 0, n_8, .inl q_9))] ++ (offS ad_5 tp_p_ hd_p_ tf_p_ cf_p_ g o_6)) H_4 := hP
  have hD : va_D A ([(a_r_, .inl (g 0, n_r_, .inl r_)), (a_q_7, .inl (g 0, n_8, .inl q_9))] ++ (offS ad_5 tp_p_ hd_p_ tf_p_ cf_p_ g o_6)) := hD
  refine W.widen (k := 207) (n := 1436) (by omega) (by omega) ?_
  refine lv_astore (lv' := [(7, .ref a_q_7), (6, .int r_1), (0, .ref t_p_), (1, .ref a_r_), (2, .int tape), (3, .int order), (4, .int way), (5, .int memory)]) hx hb dL_areRuns_16 hl (by decide) rfl (fun ls hl => ?_)
  refine lv_aload_n hx hb dL_areRuns_18 rfl (lv_at hl 2 rfl) ?_
  refine lv_iload_n hx hb dL_areRuns_19 rfl (lv_at hl 4 rfl) ?_
  obtain ⟨hPs, hDs⟩ := seg_call (segs := [[(a_r_, .inl (g 0, n_r_, .inl r_))], [(a_q_7, .inl (g 0, n_8, .inl q_9))], offS ad_5 tp_p_ hd_p_ tf_p_ cf_p_ g o_6]) [[(a_r_, .inl (g 0, n_r_, .inl r_))], [(a_q_7, .inl (g 0, n_8, .inl q_9))]] [offS ad_5 tp_p_ hd_p_ tf_p_ cf_p_ g o_6] 3 [0, 1, 2] rfl rfl (by decide) hP hD
  have hPc : va_P (dC, dI) vwCl (offS ad_5 tp_p_ hd_p_ tf_p_ cf_p_ g o_6) H_4 := P_r hPs
  have hDc : va_D A (offS ad_5 tp_p_ hd_p_ tf_p_ cf_p_ g o_6) := D_r hDs
  have hFc : ∀ q, va_A (offS ad_5 tp_p_ hd_p_ tf_p_ cf_p_ g o_6) H_4.size q → A q := A_all hDc hA hS.1
  refine va_callq (va_runS (As := [.ref t_p_, .int tape]) (rest := []) ⟨hx, hb, hml, hown, hts⟩ (c_L_lengths l hlf dC dI g (tp_p_ := tp_p_) (hd_p_ := hd_p_) (tf_p_ := tf_p_) (cf_p_ := cf_p_) (htf_p_ := htf_p_) (hcf_p_ := hcf_p_) (a_p_ := ad_5) (t_p_ := t_p_) (h_p_ := had_5) (o_p_ := o_6) (tape := tape) (hw := hw) (sz := H_4.size)) (va_cwS 2 hts (gqS aw_3_174 aw_3_175 aw_1_0 aw_3_176) rfl rfl rfl (by decide +kernel) ⟨Nat.le_of_ble_eq_true rfl, Nat.le_of_ble_eq_true rfl⟩) ⟨PG_blind, PG_call hK hG hS hPc hDc hFc⟩ rfl rfl hl.1 rfl (lv_room (Nat.le_of_ble_eq_true rfl)) dL_areRuns_20 ⟨by rw [hrc]; omega, by rw [hrs]; omega⟩) hS (fun q _ h => hFc q h) hFc (fun r_10 u_10 t_10 H_10 L_10 ht_10 hvm_10 hw_10 hB_10 hz_10 hk_10 hS => ?_)
  obtain ⟨ad_11, o_12, a_q_13, n_14, q_15, u_10⟩ := u_10
  obtain ⟨rfl, ⟨hw, had_11⟩⟩ := hw_10
  rw [ht_10] at hB_10
  obtain ⟨hP1, hD1⟩ := hB_10
  obtain ⟨hP, hD⟩ := join_r hPs hDs hk_10 hFc hP1 hD1
  obtain ⟨hP, hD⟩ := seg_join [[(a_r_, .inl (g 0, n_r_, .inl r_))], [(a_q_7, .inl (g 0, n_8, .inl q_9))]] [[(a_q_13, .inl (g 0, n_14, .inl q_15))], offS ad_11 tp_p_ hd_p_ tf_p_ cf_p_ g o_12] [[(a_r_, .inl (g 0, n_r_, .inl r_))], [(a_q_7, .inl (g 0, n_8, .inl q_9))], [(a_q_13, .inl (g 0, n_14, .inl q_15))], offS ad_11 tp_p_ hd_p_ tf_p_ cf_p_ g o_12] 4 [0, 1, 2, 3] rfl rfl (by decide) hP hD
  have hP : va_P (dC, dI) vwCl ([(a_r_, .inl (g 0, n_r_, .inl r_)), (a_q_7, .inl (g 0, n_8, .inl q_9)), (a_q_13, .inl (g 0, n_14, .inl q_15))] ++ (offS ad_11 tp_p_ hd_p_ tf_p_ cf_p_ g o_12)) H_10 := hP
  have hD : va_D A ([(a_r_, .inl (g 0, n_r_, .inl r_)), (a_q_7, .inl (g 0, n_8, .inl q_9)), (a_q_13, .inl (g 0, n_14, .inl q_15))] ++ (offS ad_11 tp_p_ hd_p_ tf_p_ cf_p_ g o_12)) := hD
  refine W.widen (k := 411) (n := 2854) (by omega) (by omega) ?_
  refine lv_astore (lv' := [(8, .ref a_q_13), (7, .ref a_q_7), (6, .int r_1), (0, .ref t_p_), (1, .ref a_r_), (2, .int tape), (3, .int order), (4, .int way), (5, .int memory)]) hx hb dL_areRuns_23 hl (by decide) rfl (fun ls hl => ?_)
  refine lv_aload hx hb dL_areRuns_25 (lv_at hl 1 rfl) ?_
  refine va_alen hx hb hK hP 1 0 rfl rfl (v := nI n_8) rfl dL_areRuns_27 ?_
  obtain ⟨n_19, en_19, ln_19, hw⟩ := hw
  refine va_newa (atype := .int) (a0 := (n_19, .inl (fun _ => 0))) hx hb hnaint rfl hK hP hD hS hA (fun _ => rfl) (by rw [en_19]; exact nI_pos (by omega)) (N' := n_19) (by rw [en_19]; exact nI_clamp (by omega)) (show n_19 * 4 ≤ 536870912 by omega) (by rw [hrc]; omega) (by rw [hrs]; omega) dL_areRuns_28 (fun a_q_16 cA_18 H_17 hK9 hP hD hS => ?_)
  obtain rfl : g 0 = cA_18 := K_one hK9 0 5 rfl rfl
  obtain ⟨hP, hD⟩ := seg_join [[(a_r_, .inl (g 0, n_r_, .inl r_))], [(a_q_7, .inl (g 0, n_8, .inl q_9))], [(a_q_13, .inl (g 0, n_14, .inl q_15))], offS ad_11 tp_p_ hd_p_ tf_p_ cf_p_ g o_12] [[(a_q_16, .inl (g 0, n_19, .inl (fun _ => 0)))]] [[(a_r_, .inl (g 0, n_r_, .inl r_))], [(a_q_7, .inl (g 0, n_8, .inl q_9))], [(a_q_13, .inl (g 0, n_14, .inl q_15))], [(a_q_16, .inl (g 0, n_19, .inl (fun _ => 0)))], offS ad_11 tp_p_ hd_p_ tf_p_ cf_p_ g o_12] 5 [0, 1, 2, 4, 3] rfl rfl (by decide) hP hD
  have hP : va_P (dC, dI) vwCl ([(a_r_, .inl (g 0, n_r_, .inl r_)), (a_q_7, .inl (g 0, n_8, .inl q_9)), (a_q_13, .inl (g 0, n_14, .inl q_15)), (a_q_16, .inl (g 0, n_19, .inl (fun _ => 0)))] ++ (offS ad_11 tp_p_ hd_p_ tf_p_ cf_p_ g o_12)) H_17 := hP
  have hD : va_D A ([(a_r_, .inl (g 0, n_r_, .inl r_)), (a_q_7, .inl (g 0, n_8, .inl q_9)), (a_q_13, .inl (g 0, n_14, .inl q_15)), (a_q_16, .inl (g 0, n_19, .inl (fun _ => 0)))] ++ (offS ad_11 tp_p_ hd_p_ tf_p_ cf_p_ g o_12)) := hD
  refine W.widen (k := 412) (n := 3054) (by omega) (by omega) ?_
  refine lv_astore (lv' := [(9, .ref a_q_16), (8, .ref a_q_13), (7, .ref a_q_7), (6, .int r_1), (0, .ref t_p_), (1, .ref a_r_), (2, .int tape), (3, .int order), (4, .int way), (5, .int memory)]) hx hb dL_areRuns_30 hl (by decide) rfl (fun ls hl => ?_)
  refine lv_iconst (v := 0) hx hb dL_areRuns_32 (by decide) ?_
  refine lv_istore (lv' := [(10, .int 0), (9, .ref a_q_16), (8, .ref a_q_13), (7, .ref a_q_7), (6, .int r_1), (0, .ref t_p_), (1, .ref a_r_), (2, .int tape), (3, .int order), (4, .int way), (5, .int memory)]) hx hb dL_areRuns_33 hl (by decide) rfl (fun ls hl => ?_)
  refine lv_iconst (v := 0) hx hb dL_areRuns_35 (by decide) ?_
  refine lv_istore (lv' := [(11, .int 0), (10, .int 0), (9, .ref a_q_16), (8, .ref a_q_13), (7, .ref a_q_7), (6, .int r_1), (0, .ref t_p_), (1, .ref a_r_), (2, .int tape), (3, .int order), (4, .int way), (5, .int memory)]) hx hb dL_areRuns_36 hl (by decide) rfl (fun ls hl => ?_)
  refine W_abs (fun QM hQM => ?_)
  have EX38_55 : ∀ (o_25 : OS) (ad_26 : Nat → Nat) (had_26 : ad_26 0 = t_p_) (H : Heap) (locs : List Loc), (wx_L_areRuns_38_55 Q) o_25 → va_P (dC, dI) vwCl ([(a_r_, .inl (g 0, n_r_, .inl r_))] ++ (offS ad_26 tp_p_ hd_p_ tf_p_ cf_p_ g o_25)) H → va_D A ([(a_r_, .inl (g 0, n_r_, .inl r_))] ++ (offS ad_26 tp_p_ hd_p_ tf_p_ cf_p_ g o_25)) → va_S A s.heap H locs → ∀ (ls : Array Slot), lv_has ls 13 [] → W p l e (headSpec wqL_areRuns ({ frames := 10, cells := 16392, slots := 99322, locals := 174 })).room s m ([.ref t_p_, .ref a_r_, .int tape, .int order, .int way, .int memory] : List Value).toArray below meth c H locs 9316 56478 QM (F0 m 55 ls []) := by
    intro o_25 ad_26 had_26 H locs hw hP hD hS ls hl
    refine lv_iconst (v := 0) hx hb dL_areRuns_55 (by decide) ?_
    refine W.widen (k := 16392) (n := 99322) (by omega) (by omega) ?_
    subst hQM
    exact W.zret (v := 0) hx hb hr rfl (fun t ht hW => ⟨⟨_, (ad_26, o_25, ()), rfl, ⟨false, rfl, ⟨hw, had_26⟩⟩, ⟨P_at ht hP, hD⟩⟩, hS.F ht⟩) hS.2.2 dL_areRuns_56
  have EX38_109 : ∀ (o_27 : OS) (ad_28 : Nat → Nat) (had_28 : ad_28 0 = t_p_) (H : Heap) (locs : List Loc), (wx_L_areRuns_38_109 Q) o_27 → va_P (dC, dI) vwCl ([(a_r_, .inl (g 0, n_r_, .inl r_))] ++ (offS ad_28 tp_p_ hd_p_ tf_p_ cf_p_ g o_27)) H → va_D A ([(a_r_, .inl (g 0, n_r_, .inl r_))] ++ (offS ad_28 tp_p_ hd_p_ tf_p_ cf_p_ g o_27)) → va_S A s.heap H locs → ∀ (ls : Array Slot), lv_has ls 13 [] → W p l e (headSpec wqL_areRuns ({ frames := 10, cells := 16392, slots := 99322, locals := 174 })).room s m ([.ref t_p_, .ref a_r_, .int tape, .int order, .int way, .int memory] : List Value).toArray below meth c H locs 9316 56478 QM (F0 m 109 ls []) := by
    intro o_27 ad_28 had_28 H locs hw hP hD hS ls hl
    refine lv_iconst (v := 0) hx hb dL_areRuns_109 (by decide) ?_
    refine W.widen (k := 16392) (n := 99322) (by omega) (by omega) ?_
    subst hQM
    exact W.zret (v := 0) hx hb hr rfl (fun t ht hW => ⟨⟨_, (ad_28, o_27, ()), rfl, ⟨false, rfl, ⟨hw, had_28⟩⟩, ⟨P_at ht hP, hD⟩⟩, hS.F ht⟩) hS.2.2 dL_areRuns_110
  have EX38_216 : ∀ (o_29 : OS) (ad_30 : Nat → Nat) (had_30 : ad_30 0 = t_p_) (H : Heap) (locs : List Loc), (wx_L_areRuns_38_216 Q) o_29 → va_P (dC, dI) vwCl ([(a_r_, .inl (g 0, n_r_, .inl r_))] ++ (offS ad_30 tp_p_ hd_p_ tf_p_ cf_p_ g o_29)) H → va_D A ([(a_r_, .inl (g 0, n_r_, .inl r_))] ++ (offS ad_30 tp_p_ hd_p_ tf_p_ cf_p_ g o_29)) → va_S A s.heap H locs → ∀ (ls : Array Slot), lv_has ls 13 [] → W p l e (headSpec wqL_areRuns ({ frames := 10, cells := 16392, slots := 99322, locals := 174 })).room s m ([.ref t_p_, .ref a_r_, .int tape, .int order, .int way, .int memory] : List Value).toArray below meth c H locs 9316 56478 QM (F0 m 216 ls []) := by
    intro o_29 ad_30 had_30 H locs hw hP hD hS ls hl
    refine lv_iconst (v := 0) hx hb dL_areRuns_216 (by decide) ?_
    refine W.widen (k := 16392) (n := 99322) (by omega) (by omega) ?_
    subst hQM
    exact W.zret (v := 0) hx hb hr rfl (fun t ht hW => ⟨⟨_, (ad_30, o_29, ()), rfl, ⟨false, rfl, ⟨hw, had_30⟩⟩, ⟨P_at ht hP, hD⟩⟩, hS.F ht⟩) hS.2.2 dL_areRuns_217
  have EX38_224 : ∀ (o_31 : OS) (v10_32 : Int32) (q28_33 : Nat → Int32) (ad_34 : Nat → Nat) (had_34 : ad_34 0 = t_p_) (H : Heap) (locs : List Loc), (wx_L_areRuns_38_224 tape order way memory Q n_8 q_9 n_14 q_15 n_19) o_31 v10_32 q28_33 → va_P (dC, dI) vwCl ([(a_r_, .inl (g 0, n_r_, .inl r_)), (a_q_7, .inl (g 0, n_8, .inl q_9)), (a_q_13, .inl (g 0, n_14, .inl q_15)), (a_q_16, .inl (g 0, n_19, .inl q28_33))] ++ (offS ad_34 tp_p_ hd_p_ tf_p_ cf_p_ g o_31)) H → va_D A ([(a_r_, .inl (g 0, n_r_, .inl r_)), (a_q_7, .inl (g 0, n_8, .inl q_9)), (a_q_13, .inl (g 0, n_14, .inl q_15)), (a_q_16, .inl (g 0, n_19, .inl q28_33))] ++ (offS ad_34 tp_p_ hd_p_ tf_p_ cf_p_ g o_31)) → va_S A s.heap H locs → ∀ (ls : Array Slot), lv_has ls 13 [(0, .ref t_p_), (2, .int tape), (3, .int order), (4, .int way), (5, .int memory), (7, .ref a_q_7), (8, .ref a_q_13), (9, .ref a_q_16), (10, .int v10_32)] → W p l e (headSpec wqL_areRuns ({ frames := 10, cells := 16392, slots := 99322, locals := 174 })).room s m ([.ref t_p_, .ref a_r_, .int tape, .int order, .int way, .int memory] : List Value).toArray below meth c H locs 9316 56478 QM (F0 m 224 ls []) := by
    intro o_31 v10_32 q28_33 ad_34 had_34 H locs hw hP hD hS ls hl
    refine lv_iload hx hb dL_areRuns_224 (lv_at hl 8 rfl) ?_
    refine lv_aload hx hb dL_areRuns_226 (lv_at hl 5 rfl) ?_
    refine va_alen hx hb hK hP 1 0 rfl rfl (v := nI n_8) rfl dL_areRuns_228 ?_
    refine lv_icmp_ne (tgt := 309) hx hb dL_areRuns_229 (by decide) (fun c_35 => ?_) (fun c_35 => ?_)
    · have hw := hw.2 c_35
      refine lv_iconst (v := 0) hx hb dL_areRuns_309 (by decide) ?_
      refine W.widen (k := 16392) (n := 99322) (by omega) (by omega) ?_
      subst hQM
      obtain ⟨hP, hD⟩ := seg_sub (segs := [[(a_r_, .inl (g 0, n_r_, .inl r_))], [(a_q_7, .inl (g 0, n_8, .inl q_9))], [(a_q_13, .inl (g 0, n_14, .inl q_15))], [(a_q_16, .inl (g 0, n_19, .inl q28_33))], offS ad_34 tp_p_ hd_p_ tf_p_ cf_p_ g o_31]) [[(a_r_, .inl (g 0, n_r_, .inl r_))], offS ad_34 tp_p_ hd_p_ tf_p_ cf_p_ g o_31] [[(a_q_7, .inl (g 0, n_8, .inl q_9))], [(a_q_13, .inl (g 0, n_14, .inl q_15))], [(a_q_16, .inl (g 0, n_19, .inl q28_33))]] 5 [0, 4, 1, 2, 3] rfl rfl (by decide) hP hD
      exact W.zret (v := 0) hx hb hr rfl (fun t ht hW => ⟨⟨_, (ad_34, o_31, ()), rfl, ⟨false, rfl, ⟨hw, had_34⟩⟩, ⟨P_at ht hP, hD⟩⟩, hS.F ht⟩) hS.2.2 dL_areRuns_310
    · have hw := hw.1 c_35
      refine lv_aload_n hx hb dL_areRuns_232 rfl (lv_at hl 0 rfl) ?_
      refine lv_aload hx hb dL_areRuns_233 (lv_at hl 7 rfl) ?_
      refine lv_iload_n hx hb dL_areRuns_235 rfl (lv_at hl 2 rfl) ?_
      obtain ⟨hPs, hDs⟩ := seg_call (segs := [[(a_r_, .inl (g 0, n_r_, .inl r_))], [(a_q_7, .inl (g 0, n_8, .inl q_9))], [(a_q_13, .inl (g 0, n_14, .inl q_15))], [(a_q_16, .inl (g 0, n_19, .inl q28_33))], offS ad_34 tp_p_ hd_p_ tf_p_ cf_p_ g o_31]) [[(a_r_, .inl (g 0, n_r_, .inl r_))], [(a_q_7, .inl (g 0, n_8, .inl q_9))], [(a_q_13, .inl (g 0, n_14, .inl q_15))]] [[(a_q_16, .inl (g 0, n_19, .inl q28_33))], offS ad_34 tp_p_ hd_p_ tf_p_ cf_p_ g o_31] 5 [0, 1, 2, 3, 4] rfl rfl (by decide) hP hD
      have hPc : va_P (dC, dI) vwCl ([(a_q_16, .inl (g 0, n_19, .inl q28_33))] ++ (offS ad_34 tp_p_ hd_p_ tf_p_ cf_p_ g o_31)) H := P_r hPs
      have hDc : va_D A ([(a_q_16, .inl (g 0, n_19, .inl q28_33))] ++ (offS ad_34 tp_p_ hd_p_ tf_p_ cf_p_ g o_31)) := D_r hDs
      have hFc : ∀ q, va_A ([(a_q_16, .inl (g 0, n_19, .inl q28_33))] ++ (offS ad_34 tp_p_ hd_p_ tf_p_ cf_p_ g o_31)) H.size q → A q := A_all hDc hA hS.1
      refine va_callq (va_runS (As := [.ref t_p_, .ref a_q_16, .int order]) (rest := []) ⟨hx, hb, hml, hown, hts⟩ (c_L_sorted_s l hlf dC dI g (tp_p_ := tp_p_) (hd_p_ := hd_p_) (tf_p_ := tf_p_) (cf_p_ := cf_p_) (htf_p_ := htf_p_) (hcf_p_ := hcf_p_) (a_p_ := ad_34) (t_p_ := t_p_) (h_p_ := had_34) (o_p_ := o_31) (a_all := a_q_16) (n_all := n_19) (all := q28_33) (order := order) (hw := hw) (sz := H.size)) (va_cwS 3 hts (gqS aw_4_39 aw_4_40 aw_1_0 aw_4_41) rfl rfl rfl (by decide +kernel) ⟨Nat.le_of_ble_eq_true rfl, Nat.le_of_ble_eq_true rfl⟩) ⟨PG_blind, PG_call hK hG hS hPc hDc hFc⟩ rfl rfl hl.1 rfl (lv_room (Nat.le_of_ble_eq_true rfl)) dL_areRuns_236 ⟨by rw [hrc]; omega, by rw [hrs]; omega⟩) hS (fun q _ h => hFc q h) hFc (fun r_36 u_36 t_36 H_36 L_36 ht_36 hvm_36 hw_36 hB_36 hz_36 hk_36 hS => ?_)
      obtain ⟨ad_37, o_38, a_q_39, n_40, q_41, u_36⟩ := u_36
      obtain ⟨rfl, ⟨hw, had_37⟩⟩ := hw_36
      rw [ht_36] at hB_36
      obtain ⟨hP1, hD1⟩ := hB_36
      obtain ⟨hP, hD⟩ := join_r hPs hDs hk_36 hFc hP1 hD1
      obtain ⟨hP, hD⟩ := seg_join [[(a_r_, .inl (g 0, n_r_, .inl r_))], [(a_q_7, .inl (g 0, n_8, .inl q_9))], [(a_q_13, .inl (g 0, n_14, .inl q_15))]] [[(a_q_16, .inl (g 0, n_19, .inl q28_33))], [(a_q_39, .inl (g 0, n_40, .inl q_41))], offS ad_37 tp_p_ hd_p_ tf_p_ cf_p_ g o_38] [[(a_r_, .inl (g 0, n_r_, .inl r_))], [(a_q_7, .inl (g 0, n_8, .inl q_9))], [(a_q_13, .inl (g 0, n_14, .inl q_15))], [(a_q_16, .inl (g 0, n_19, .inl q28_33))], [(a_q_39, .inl (g 0, n_40, .inl q_41))], offS ad_37 tp_p_ hd_p_ tf_p_ cf_p_ g o_38] 6 [0, 1, 2, 3, 4, 5] rfl rfl (by decide) hP hD
      have hP : va_P (dC, dI) vwCl ([(a_r_, .inl (g 0, n_r_, .inl r_)), (a_q_7, .inl (g 0, n_8, .inl q_9)), (a_q_13, .inl (g 0, n_14, .inl q_15)), (a_q_16, .inl (g 0, n_19, .inl q28_33)), (a_q_39, .inl (g 0, n_40, .inl q_41))] ++ (offS ad_37 tp_p_ hd_p_ tf_p_ cf_p_ g o_38)) H_36 := hP
      have hD : va_D A ([(a_r_, .inl (g 0, n_r_, .inl r_)), (a_q_7, .inl (g 0, n_8, .inl q_9)), (a_q_13, .inl (g 0, n_14, .inl q_15)), (a_q_16, .inl (g 0, n_19, .inl q28_33)), (a_q_39, .inl (g 0, n_40, .inl q_41))] ++ (offS ad_37 tp_p_ hd_p_ tf_p_ cf_p_ g o_38)) := hD
      refine W.widen (k := 12845) (n := 77846) (by omega) (by omega) ?_
      refine lv_aload_n hx hb dL_areRuns_239 rfl (lv_at hl 0 rfl) ?_
      refine lv_aload hx hb dL_areRuns_240 (lv_at hl 5 rfl) ?_
      refine lv_iload_n hx hb dL_areRuns_242 rfl (lv_at hl 2 rfl) ?_
      obtain ⟨hPs, hDs⟩ := seg_call (segs := [[(a_r_, .inl (g 0, n_r_, .inl r_))], [(a_q_7, .inl (g 0, n_8, .inl q_9))], [(a_q_13, .inl (g 0, n_14, .inl q_15))], [(a_q_16, .inl (g 0, n_19, .inl q28_33))], [(a_q_39, .inl (g 0, n_40, .inl q_41))], offS ad_37 tp_p_ hd_p_ tf_p_ cf_p_ g o_38]) [[(a_r_, .inl (g 0, n_r_, .inl r_))], [(a_q_13, .inl (g 0, n_14, .inl q_15))], [(a_q_16, .inl (g 0, n_19, .inl q28_33))], [(a_q_39, .inl (g 0, n_40, .inl q_41))]] [[(a_q_7, .inl (g 0, n_8, .inl q_9))], offS ad_37 tp_p_ hd_p_ tf_p_ cf_p_ g o_38] 6 [0, 2, 3, 4, 1, 5] rfl rfl (by decide) hP hD
      have hPc : va_P (dC, dI) vwCl ([(a_q_7, .inl (g 0, n_8, .inl q_9))] ++ (offS ad_37 tp_p_ hd_p_ tf_p_ cf_p_ g o_38)) H_36 := P_r hPs
      have hDc : va_D A ([(a_q_7, .inl (g 0, n_8, .inl q_9))] ++ (offS ad_37 tp_p_ hd_p_ tf_p_ cf_p_ g o_38)) := D_r hDs
      have hFc : ∀ q, va_A ([(a_q_7, .inl (g 0, n_8, .inl q_9))] ++ (offS ad_37 tp_p_ hd_p_ tf_p_ cf_p_ g o_38)) H_36.size q → A q := A_all hDc hA hS.1
      refine va_callq (va_runS (As := [.ref t_p_, .ref a_q_7, .int order]) (rest := [.ref a_q_39]) ⟨hx, hb, hml, hown, hts⟩ (c_L_sorted_s l hlf dC dI g (tp_p_ := tp_p_) (hd_p_ := hd_p_) (tf_p_ := tf_p_) (cf_p_ := cf_p_) (htf_p_ := htf_p_) (hcf_p_ := hcf_p_) (a_p_ := ad_37) (t_p_ := t_p_) (h_p_ := had_37) (o_p_ := o_38) (a_all := a_q_7) (n_all := n_8) (all := q_9) (order := order) (hw := hw) (sz := H_36.size)) (va_cwS 3 hts (gqS aw_4_39 aw_4_40 aw_1_0 aw_4_41) rfl rfl rfl (by decide +kernel) ⟨Nat.le_of_ble_eq_true rfl, Nat.le_of_ble_eq_true rfl⟩) ⟨PG_blind, PG_call hK hG hS hPc hDc hFc⟩ rfl rfl hl.1 rfl (lv_room (Nat.le_of_ble_eq_true rfl)) dL_areRuns_243 ⟨by rw [hrc]; omega, by rw [hrs]; omega⟩) hS (fun q _ h => hFc q h) hFc (fun r_42 u_42 t_42 H_42 L_42 ht_42 hvm_42 hw_42 hB_42 hz_42 hk_42 hS => ?_)
      obtain ⟨ad_43, o_44, a_q_45, n_46, q_47, u_42⟩ := u_42
      obtain ⟨rfl, ⟨hw, had_43⟩⟩ := hw_42
      rw [ht_42] at hB_42
      obtain ⟨hP1, hD1⟩ := hB_42
      obtain ⟨hP, hD⟩ := join_r hPs hDs hk_42 hFc hP1 hD1
      obtain ⟨hP, hD⟩ := seg_join [[(a_r_, .inl (g 0, n_r_, .inl r_))], [(a_q_13, .inl (g 0, n_14, .inl q_15))], [(a_q_16, .inl (g 0, n_19, .inl q28_33))], [(a_q_39, .inl (g 0, n_40, .inl q_41))]] [[(a_q_7, .inl (g 0, n_8, .inl q_9))], [(a_q_45, .inl (g 0, n_46, .inl q_47))], offS ad_43 tp_p_ hd_p_ tf_p_ cf_p_ g o_44] [[(a_r_, .inl (g 0, n_r_, .inl r_))], [(a_q_7, .inl (g 0, n_8, .inl q_9))], [(a_q_13, .inl (g 0, n_14, .inl q_15))], [(a_q_16, .inl (g 0, n_19, .inl q28_33))], [(a_q_39, .inl (g 0, n_40, .inl q_41))], [(a_q_45, .inl (g 0, n_46, .inl q_47))], offS ad_43 tp_p_ hd_p_ tf_p_ cf_p_ g o_44] 7 [0, 4, 1, 2, 3, 5, 6] rfl rfl (by decide) hP hD
      have hP : va_P (dC, dI) vwCl ([(a_r_, .inl (g 0, n_r_, .inl r_)), (a_q_7, .inl (g 0, n_8, .inl q_9)), (a_q_13, .inl (g 0, n_14, .inl q_15)), (a_q_16, .inl (g 0, n_19, .inl q28_33)), (a_q_39, .inl (g 0, n_40, .inl q_41)), (a_q_45, .inl (g 0, n_46, .inl q_47))] ++ (offS ad_43 tp_p_ hd_p_ tf_p_ cf_p_ g o_44)) H_42 := hP
      have hD : va_D A ([(a_r_, .inl (g 0, n_r_, .inl r_)), (a_q_7, .inl (g 0, n_8, .inl q_9)), (a_q_13, .inl (g 0, n_14, .inl q_15)), (a_q_16, .inl (g 0, n_19, .inl q28_33)), (a_q_39, .inl (g 0, n_40, .inl q_41)), (a_q_45, .inl (g 0, n_46, .inl q_47))] ++ (offS ad_43 tp_p_ hd_p_ tf_p_ cf_p_ g o_44)) := hD
      refine W.widen (k := 16374) (n := 99214) (by omega) (by omega) ?_
      obtain ⟨hPs, hDs⟩ := seg_call (segs := [[(a_r_, .inl (g 0, n_r_, .inl r_))], [(a_q_7, .inl (g 0, n_8, .inl q_9))], [(a_q_13, .inl (g 0, n_14, .inl q_15))], [(a_q_16, .inl (g 0, n_19, .inl q28_33))], [(a_q_39, .inl (g 0, n_40, .inl q_41))], [(a_q_45, .inl (g 0, n_46, .inl q_47))], offS ad_43 tp_p_ hd_p_ tf_p_ cf_p_ g o_44]) [[(a_r_, .inl (g 0, n_r_, .inl r_))], [(a_q_7, .inl (g 0, n_8, .inl q_9))], [(a_q_13, .inl (g 0, n_14, .inl q_15))], [(a_q_16, .inl (g 0, n_19, .inl q28_33))], offS ad_43 tp_p_ hd_p_ tf_p_ cf_p_ g o_44] [[(a_q_39, .inl (g 0, n_40, .inl q_41))], [(a_q_45, .inl (g 0, n_46, .inl q_47))]] 7 [0, 1, 2, 3, 6, 4, 5] rfl rfl (by decide) hP hD
      have hPc : va_P (dC, dI) vwCl [(a_q_39, .inl (g 0, n_40, .inl q_41)), (a_q_45, .inl (g 0, n_46, .inl q_47))] H_42 := P_r hPs
      have hDc : va_D A [(a_q_39, .inl (g 0, n_40, .inl q_41)), (a_q_45, .inl (g 0, n_46, .inl q_47))] := D_r hDs
      have hFc : ∀ q, va_A [(a_q_39, .inl (g 0, n_40, .inl q_41)), (a_q_45, .inl (g 0, n_46, .inl q_47))] H_42.size q → A q := A_all hDc hA hS.1
      refine va_calli (va_runS (As := [.ref a_q_39, .ref a_q_45]) (rest := []) ⟨hx, hb, hml, hown, hts⟩ (c_L_same l hlf dC dI g (a_a_ := a_q_39) (n_a_ := n_40) (a_ := q_41) (a_b_ := a_q_45) (n_b_ := n_46) (b_ := q_47) (hw := hw) (sz := H_42.size)) (va_cwS 2 hts (gqS aw_4_42 aw_4_43 aw_1_0 aw_4_44) rfl rfl rfl (by decide +kernel) ⟨Nat.le_of_ble_eq_true rfl, Nat.le_of_ble_eq_true rfl⟩) ⟨PG_blind, PG_call hK hG hS hPc hDc hFc⟩ rfl rfl hl.1 rfl (lv_room (Nat.le_of_ble_eq_true rfl)) dL_areRuns_246 ⟨by rw [hrc]; omega, by rw [hrs]; omega⟩) hS (fun q _ h => hFc q h) hFc (fun r_48 u_48 t_48 H_48 L_48 ht_48 hvm_48 hw_48 hB_48 hz_48 hk_48 hS => ?_)
      obtain ⟨u_48⟩ := u_48
      obtain ⟨b_48, rfl, hw⟩ := hw_48
      rw [ht_48] at hB_48
      obtain ⟨hP1, hD1⟩ := hB_48
      obtain ⟨hP, hD⟩ := join_r hPs hDs hk_48 hFc hP1 hD1
      obtain ⟨hP, hD⟩ := seg_join [[(a_r_, .inl (g 0, n_r_, .inl r_))], [(a_q_7, .inl (g 0, n_8, .inl q_9))], [(a_q_13, .inl (g 0, n_14, .inl q_15))], [(a_q_16, .inl (g 0, n_19, .inl q28_33))], offS ad_43 tp_p_ hd_p_ tf_p_ cf_p_ g o_44] [[(a_q_39, .inl (g 0, n_40, .inl q_41))], [(a_q_45, .inl (g 0, n_46, .inl q_47))]] [[(a_r_, .inl (g 0, n_r_, .inl r_))], [(a_q_7, .inl (g 0, n_8, .inl q_9))], [(a_q_13, .inl (g 0, n_14, .inl q_15))], [(a_q_16, .inl (g 0, n_19, .inl q28_33))], [(a_q_39, .inl (g 0, n_40, .inl q_41))], [(a_q_45, .inl (g 0, n_46, .inl q_47))], offS ad_43 tp_p_ hd_p_ tf_p_ cf_p_ g o_44] 7 [0, 1, 2, 3, 5, 6, 4] rfl rfl (by decide) hP hD
      have hP : va_P (dC, dI) vwCl ([(a_r_, .inl (g 0, n_r_, .inl r_)), (a_q_7, .inl (g 0, n_8, .inl q_9)), (a_q_13, .inl (g 0, n_14, .inl q_15)), (a_q_16, .inl (g 0, n_19, .inl q28_33)), (a_q_39, .inl (g 0, n_40, .inl q_41)), (a_q_45, .inl (g 0, n_46, .inl q_47))] ++ (offS ad_43 tp_p_ hd_p_ tf_p_ cf_p_ g o_44)) H_48 := hP
      have hD : va_D A ([(a_r_, .inl (g 0, n_r_, .inl r_)), (a_q_7, .inl (g 0, n_8, .inl q_9)), (a_q_13, .inl (g 0, n_14, .inl q_15)), (a_q_16, .inl (g 0, n_19, .inl q28_33)), (a_q_39, .inl (g 0, n_40, .inl q_41)), (a_q_45, .inl (g 0, n_46, .inl q_47))] ++ (offS ad_43 tp_p_ hd_p_ tf_p_ cf_p_ g o_44)) := hD
      refine W.widen (k := 16374) (n := 99214) (by omega) (by omega) ?_
      refine lv_if_eq (tgt := 309) hx hb dL_areRuns_249 (by decide) (fun c_49 => ?_) (fun c_49 => ?_)
      · have hw := hw.1 (b2i_0 c_49)
        refine lv_iconst (v := 0) hx hb dL_areRuns_309 (by decide) ?_
        refine W.widen (k := 16392) (n := 99322) (by omega) (by omega) ?_
        subst hQM
        obtain ⟨hP, hD⟩ := seg_sub (segs := [[(a_r_, .inl (g 0, n_r_, .inl r_))], [(a_q_7, .inl (g 0, n_8, .inl q_9))], [(a_q_13, .inl (g 0, n_14, .inl q_15))], [(a_q_16, .inl (g 0, n_19, .inl q28_33))], [(a_q_39, .inl (g 0, n_40, .inl q_41))], [(a_q_45, .inl (g 0, n_46, .inl q_47))], offS ad_43 tp_p_ hd_p_ tf_p_ cf_p_ g o_44]) [[(a_r_, .inl (g 0, n_r_, .inl r_))], offS ad_43 tp_p_ hd_p_ tf_p_ cf_p_ g o_44] [[(a_q_7, .inl (g 0, n_8, .inl q_9))], [(a_q_13, .inl (g 0, n_14, .inl q_15))], [(a_q_16, .inl (g 0, n_19, .inl q28_33))], [(a_q_39, .inl (g 0, n_40, .inl q_41))], [(a_q_45, .inl (g 0, n_46, .inl q_47))]] 7 [0, 6, 1, 2, 3, 4, 5] rfl rfl (by decide) hP hD
        exact W.zret (v := 0) hx hb hr rfl (fun t ht hW => ⟨⟨_, (ad_43, o_44, ()), rfl, ⟨false, rfl, ⟨hw, had_43⟩⟩, ⟨P_at ht hP, hD⟩⟩, hS.F ht⟩) hS.2.2 dL_areRuns_310
      · have hw := hw.2 (b2i_1 c_49)
        refine lv_iload hx hb dL_areRuns_252 (lv_at hl 3 rfl) ?_
        refine lv_iconst (v := 2) hx hb dL_areRuns_254 (by decide) ?_
        have JN268 : ∀  (H : Heap) (locs : List Loc), (wj_L_areRuns_268 tape order way memory Q n_14 q_15 o_44)  → va_P (dC, dI) vwCl ([(a_r_, .inl (g 0, n_r_, .inl r_)), (a_q_13, .inl (g 0, n_14, .inl q_15))] ++ (offS ad_43 tp_p_ hd_p_ tf_p_ cf_p_ g o_44)) H → va_D A ([(a_r_, .inl (g 0, n_r_, .inl r_)), (a_q_13, .inl (g 0, n_14, .inl q_15))] ++ (offS ad_43 tp_p_ hd_p_ tf_p_ cf_p_ g o_44)) → va_S A s.heap H locs → ∀ (ls : Array Slot), lv_has ls 13 [(0, .ref t_p_), (2, .int tape), (3, .int order), (4, .int way), (5, .int memory), (8, .ref a_q_13)] → W p l e (headSpec wqL_areRuns ({ frames := 10, cells := 16392, slots := 99322, locals := 174 })).room s m ([.ref t_p_, .ref a_r_, .int tape, .int order, .int way, .int memory] : List Value).toArray below meth c H locs 16374 99214 QM (F0 m 268 ls []) := by
          intro  H locs hw hP hD hS ls hl
          refine lv_aload_n hx hb dL_areRuns_268 rfl (lv_at hl 0 rfl) ?_
          refine lv_bipush (v := 6) hx hb dL_areRuns_269 (by decide) ?_
          refine lv_iload_n hx hb dL_areRuns_271 rfl (lv_at hl 1 rfl) ?_
          refine lv_aload hx hb dL_areRuns_272 (lv_at hl 5 rfl) ?_
          refine va_alen hx hb hK hP 1 0 rfl rfl (v := nI n_14) rfl dL_areRuns_274 ?_
          refine lv_iconst (v := 0) hx hb dL_areRuns_275 (by decide) ?_
          obtain ⟨hPs, hDs⟩ := seg_call (segs := [[(a_r_, .inl (g 0, n_r_, .inl r_))], [(a_q_13, .inl (g 0, n_14, .inl q_15))], offS ad_43 tp_p_ hd_p_ tf_p_ cf_p_ g o_44]) [[(a_r_, .inl (g 0, n_r_, .inl r_))], [(a_q_13, .inl (g 0, n_14, .inl q_15))]] [offS ad_43 tp_p_ hd_p_ tf_p_ cf_p_ g o_44] 3 [0, 1, 2] rfl rfl (by decide) hP hD
          have hPc : va_P (dC, dI) vwCl (offS ad_43 tp_p_ hd_p_ tf_p_ cf_p_ g o_44) H := P_r hPs
          have hDc : va_D A (offS ad_43 tp_p_ hd_p_ tf_p_ cf_p_ g o_44) := D_r hDs
          have hFc : ∀ q, va_A (offS ad_43 tp_p_ hd_p_ tf_p_ cf_p_ g o_44) H.size q → A q := A_all hDc hA hS.1
          refine va_calli (vx_runSW (As := [.ref t_p_, .int 6, .int tape, .int (nI n_14), .int 0]) (rest := []) ⟨hx, hb, hml, hown, hts⟩ (c_L_asks_6 l hlf dC dI g (tp_p_ := tp_p_) (hd_p_ := hd_p_) (tf_p_ := tf_p_) (cf_p_ := cf_p_) (htf_p_ := htf_p_) (hcf_p_ := hcf_p_) (a_p_ := ad_43) (t_p_ := t_p_) (h_p_ := had_43) (o_p_ := o_44) (a_ := tape) (b_ := (nI n_14)) (c_ := 0) (hw := hw) (sz := H.size)) (vx_cwSW 5 hts (gqS aw_4_45 aw_4_46 aw_1_0 aw_4_47) rfl rfl rfl (by decide +kernel) ⟨Nat.le_of_ble_eq_true rfl, Nat.le_of_ble_eq_true rfl⟩) ⟨PG_blind, PG_call hK hG hS hPc hDc hFc⟩ rfl rfl hl.1 rfl (lv_room (Nat.le_of_ble_eq_true rfl)) dL_areRuns_276 ⟨by rw [hrc]; omega, by rw [hrs]; omega⟩) hS (fun q _ h => hFc q h) hFc (fun r_50 u_50 t_50 H_50 L_50 ht_50 hvm_50 hw_50 hB_50 hz_50 hk_50 hS => ?_)
          obtain ⟨ad_51, o_52, u_50⟩ := u_50
          obtain ⟨hw, had_51⟩ := hw_50
          rw [ht_50] at hB_50
          obtain ⟨hP1, hD1⟩ := hB_50
          obtain ⟨hP, hD⟩ := join_r hPs hDs hk_50 hFc hP1 hD1
          obtain ⟨hP, hD⟩ := seg_join [[(a_r_, .inl (g 0, n_r_, .inl r_))], [(a_q_13, .inl (g 0, n_14, .inl q_15))]] [offS ad_51 tp_p_ hd_p_ tf_p_ cf_p_ g o_52] [[(a_r_, .inl (g 0, n_r_, .inl r_))], [(a_q_13, .inl (g 0, n_14, .inl q_15))], offS ad_51 tp_p_ hd_p_ tf_p_ cf_p_ g o_52] 3 [0, 1, 2] rfl rfl (by decide) hP hD
          have hP : va_P (dC, dI) vwCl ([(a_r_, .inl (g 0, n_r_, .inl r_)), (a_q_13, .inl (g 0, n_14, .inl q_15))] ++ (offS ad_51 tp_p_ hd_p_ tf_p_ cf_p_ g o_52)) H_50 := hP
          have hD : va_D A ([(a_r_, .inl (g 0, n_r_, .inl r_)), (a_q_13, .inl (g 0, n_14, .inl q_15))] ++ (offS ad_51 tp_p_ hd_p_ tf_p_ cf_p_ g o_52)) := hD
          refine W.widen (k := 16377) (n := 99232) (by omega) (by omega) ?_
          refine lv_sipush (v := (-20001)) hx hb dL_areRuns_279 (by decide) ?_
          refine lv_icmp_ne (tgt := 309) hx hb dL_areRuns_282 (by decide) (fun c_53 => ?_) (fun c_53 => ?_)
          · have hw := hw.2 c_53
            refine lv_iconst (v := 0) hx hb dL_areRuns_309 (by decide) ?_
            refine W.widen (k := 16392) (n := 99322) (by omega) (by omega) ?_
            subst hQM
            obtain ⟨hP, hD⟩ := seg_sub (segs := [[(a_r_, .inl (g 0, n_r_, .inl r_))], [(a_q_13, .inl (g 0, n_14, .inl q_15))], offS ad_51 tp_p_ hd_p_ tf_p_ cf_p_ g o_52]) [[(a_r_, .inl (g 0, n_r_, .inl r_))], offS ad_51 tp_p_ hd_p_ tf_p_ cf_p_ g o_52] [[(a_q_13, .inl (g 0, n_14, .inl q_15))]] 3 [0, 2, 1] rfl rfl (by decide) hP hD
            exact W.zret (v := 0) hx hb hr rfl (fun t ht hW => ⟨⟨_, (ad_51, o_52, ()), rfl, ⟨false, rfl, ⟨hw, had_51⟩⟩, ⟨P_at ht hP, hD⟩⟩, hS.F ht⟩) hS.2.2 dL_areRuns_310
          · have hw := hw.1 c_53
            refine lv_aload hx hb dL_areRuns_285 (lv_at hl 5 rfl) ?_
            refine va_alen hx hb hK hP 1 0 rfl rfl (v := nI n_14) rfl dL_areRuns_287 ?_
            have JN311 : ∀ (o_54 : OS) (ad_55 : Nat → Nat) (had_55 : ad_55 0 = t_p_) (H : Heap) (locs : List Loc), (wj_L_areRuns_311 tape order way memory Q n_14) o_54 → va_P (dC, dI) vwCl ([(a_r_, .inl (g 0, n_r_, .inl r_)), (a_q_13, .inl (g 0, n_14, .inl q_15))] ++ (offS ad_55 tp_p_ hd_p_ tf_p_ cf_p_ g o_54)) H → va_D A ([(a_r_, .inl (g 0, n_r_, .inl r_)), (a_q_13, .inl (g 0, n_14, .inl q_15))] ++ (offS ad_55 tp_p_ hd_p_ tf_p_ cf_p_ g o_54)) → va_S A s.heap H locs → ∀ (ls : Array Slot), lv_has ls 13 [(0, .ref t_p_), (2, .int tape), (3, .int order), (4, .int way), (5, .int memory), (8, .ref a_q_13)] → W p l e (headSpec wqL_areRuns ({ frames := 10, cells := 16392, slots := 99322, locals := 174 })).room s m ([.ref t_p_, .ref a_r_, .int tape, .int order, .int way, .int memory] : List Value).toArray below meth c H locs 16380 99250 QM (F0 m 311 ls []) := by
              intro o_54 ad_55 had_55 H locs hw hP hD hS ls hl
              refine lv_iload hx hb dL_areRuns_311 (lv_at hl 3 rfl) ?_
              refine lv_iconst (v := 1) hx hb dL_areRuns_313 (by decide) ?_
              refine lv_icmp_ne (tgt := 390) hx hb dL_areRuns_314 (by decide) (fun c_56 => ?_) (fun c_56 => ?_)
              · have hw := hw.2 c_56
                refine lv_iconst (v := 1) hx hb dL_areRuns_390 (by decide) ?_
                refine W.widen (k := 16392) (n := 99322) (by omega) (by omega) ?_
                subst hQM
                obtain ⟨hP, hD⟩ := seg_sub (segs := [[(a_r_, .inl (g 0, n_r_, .inl r_))], [(a_q_13, .inl (g 0, n_14, .inl q_15))], offS ad_55 tp_p_ hd_p_ tf_p_ cf_p_ g o_54]) [[(a_r_, .inl (g 0, n_r_, .inl r_))], offS ad_55 tp_p_ hd_p_ tf_p_ cf_p_ g o_54] [[(a_q_13, .inl (g 0, n_14, .inl q_15))]] 3 [0, 2, 1] rfl rfl (by decide) hP hD
                exact W.zret (v := 1) hx hb hr rfl (fun t ht hW => ⟨⟨_, (ad_55, o_54, ()), rfl, ⟨true, rfl, ⟨hw, had_55⟩⟩, ⟨P_at ht hP, hD⟩⟩, hS.F ht⟩) hS.2.2 dL_areRuns_391
              · have hw := hw.1 c_56
                refine lv_aload_n hx hb dL_areRuns_317 rfl (lv_at hl 0 rfl) ?_
                refine lv_iload_n hx hb dL_areRuns_318 rfl (lv_at hl 2 rfl) ?_
                refine lv_iconst (v := 2) hx hb dL_areRuns_319 (by decide) ?_
                refine lv_iload hx hb dL_areRuns_320 (lv_at hl 4 rfl) ?_
                obtain ⟨hPs, hDs⟩ := seg_call (segs := [[(a_r_, .inl (g 0, n_r_, .inl r_))], [(a_q_13, .inl (g 0, n_14, .inl q_15))], offS ad_55 tp_p_ hd_p_ tf_p_ cf_p_ g o_54]) [[(a_r_, .inl (g 0, n_r_, .inl r_))], [(a_q_13, .inl (g 0, n_14, .inl q_15))]] [offS ad_55 tp_p_ hd_p_ tf_p_ cf_p_ g o_54] 3 [0, 1, 2] rfl rfl (by decide) hP hD
                have hPc : va_P (dC, dI) vwCl (offS ad_55 tp_p_ hd_p_ tf_p_ cf_p_ g o_54) H := P_r hPs
                have hDc : va_D A (offS ad_55 tp_p_ hd_p_ tf_p_ cf_p_ g o_54) := D_r hDs
                have hFc : ∀ q, va_A (offS ad_55 tp_p_ hd_p_ tf_p_ cf_p_ g o_54) H.size q → A q := A_all hDc hA hS.1
                refine vx_calli (vx_runV (As := [.int order, .int 2, .int memory]) (rest := []) ⟨hx, hb, hml, hown, hts⟩ (p_setRuns l hlf dC dI g tp_p_ hd_p_ tf_p_ cf_p_ htf_p_ hcf_p_ ad_55 t_p_ had_55 o_54 order 2 memory (hw := hw) (sz := H.size)) (cwV 3 hts (gqV aw_3_154 aw_3_155 aw_3_156 aw_1_1 aw_3_157) rfl rfl rfl (by decide +kernel) ⟨Nat.le_of_ble_eq_true rfl, Nat.le_of_ble_eq_true rfl⟩) ⟨PG_blind, off_recv had_55 hK hPc, PG_call hK hG hS hPc hDc hFc⟩ rfl rfl hl.1 rfl (lv_room (Nat.le_of_ble_eq_true rfl)) dL_areRuns_322 ⟨by rw [hrc]; omega, by rw [hrs]; omega⟩) hS (fun q _ h => hFc q h) hFc (fun q _ h => hFc q h) (fun E ce q9 ux t H1 locs1 ht hvm hp9 hB9 hz hk hS9 hce hcv hcl => ?_) (fun r_57 u_57 t_57 H_57 L_57 ht_57 hvm_57 hw_57 hB_57 hz_57 hk_57 hS => ?_)
                · exact (hB9.1.1).elim
                obtain ⟨ad_58, o_59⟩ := u_57
                obtain ⟨hw, had_58⟩ := hw_57
                rw [ht_57] at hB_57
                obtain ⟨hP1, hD1⟩ := hB_57
                obtain ⟨hP, hD⟩ := join_r hPs hDs hk_57 hFc hP1 hD1
                obtain ⟨hP, hD⟩ := seg_join [[(a_r_, .inl (g 0, n_r_, .inl r_))], [(a_q_13, .inl (g 0, n_14, .inl q_15))]] [offS ad_58 tp_p_ hd_p_ tf_p_ cf_p_ g o_59] [[(a_r_, .inl (g 0, n_r_, .inl r_))], [(a_q_13, .inl (g 0, n_14, .inl q_15))], offS ad_58 tp_p_ hd_p_ tf_p_ cf_p_ g o_59] 3 [0, 1, 2] rfl rfl (by decide) hP hD
                have hP : va_P (dC, dI) vwCl ([(a_r_, .inl (g 0, n_r_, .inl r_)), (a_q_13, .inl (g 0, n_14, .inl q_15))] ++ (offS ad_58 tp_p_ hd_p_ tf_p_ cf_p_ g o_59)) H_57 := hP
                have hD : va_D A ([(a_r_, .inl (g 0, n_r_, .inl r_)), (a_q_13, .inl (g 0, n_14, .inl q_15))] ++ (offS ad_58 tp_p_ hd_p_ tf_p_ cf_p_ g o_59)) := hD
                refine W.widen (k := 16383) (n := 99268) (by omega) (by omega) ?_
                refine lv_istore (lv' := [(6, .int r_57), (0, .ref t_p_), (2, .int tape), (3, .int order), (4, .int way), (5, .int memory), (8, .ref a_q_13)]) hx hb dL_areRuns_325 hl (by decide) rfl (fun ls hl => ?_)
                refine lv_aload_n hx hb dL_areRuns_327 rfl (lv_at hl 1 rfl) ?_
                refine lv_iload_n hx hb dL_areRuns_328 rfl (lv_at hl 2 rfl) ?_
                obtain ⟨hPs, hDs⟩ := seg_call (segs := [[(a_r_, .inl (g 0, n_r_, .inl r_))], [(a_q_13, .inl (g 0, n_14, .inl q_15))], offS ad_58 tp_p_ hd_p_ tf_p_ cf_p_ g o_59]) [[(a_r_, .inl (g 0, n_r_, .inl r_))], [(a_q_13, .inl (g 0, n_14, .inl q_15))]] [offS ad_58 tp_p_ hd_p_ tf_p_ cf_p_ g o_59] 3 [0, 1, 2] rfl rfl (by decide) hP hD
                have hPc : va_P (dC, dI) vwCl (offS ad_58 tp_p_ hd_p_ tf_p_ cf_p_ g o_59) H_57 := P_r hPs
                have hDc : va_D A (offS ad_58 tp_p_ hd_p_ tf_p_ cf_p_ g o_59) := D_r hDs
                have hFc : ∀ q, va_A (offS ad_58 tp_p_ hd_p_ tf_p_ cf_p_ g o_59) H_57.size q → A q := A_all hDc hA hS.1
                refine vx_calli (vx_runV (As := [.int tape]) (rest := []) ⟨hx, hb, hml, hown, hts⟩ (p_runs l hlf dC dI g tp_p_ hd_p_ tf_p_ cf_p_ htf_p_ hcf_p_ ad_58 t_p_ had_58 o_59 tape (hw := hw) (sz := H_57.size)) (cwV 1 hts (gqV aw_3_177 aw_3_178 aw_3_179 aw_1_1 aw_3_180) rfl rfl rfl (by decide +kernel) ⟨Nat.le_of_ble_eq_true rfl, Nat.le_of_ble_eq_true rfl⟩) ⟨PG_blind, off_recv had_58 hK hPc, PG_call hK hG hS hPc hDc hFc⟩ rfl rfl hl.1 rfl (lv_room (Nat.le_of_ble_eq_true rfl)) dL_areRuns_329 ⟨by rw [hrc]; omega, by rw [hrs]; omega⟩) hS (fun q _ h => hFc q h) hFc (fun q _ h => hFc q h) (fun E ce q9 ux t H1 locs1 ht hvm hp9 hB9 hz hk hS9 hce hcv hcl => ?_) (fun r_60 u_60 t_60 H_60 L_60 ht_60 hvm_60 hw_60 hB_60 hz_60 hk_60 hS => ?_)
                · exact (hB9.1.1).elim
                obtain ⟨ad_61, o_62⟩ := u_60
                obtain ⟨hw, had_61⟩ := hw_60
                rw [ht_60] at hB_60
                obtain ⟨hP1, hD1⟩ := hB_60
                obtain ⟨hP, hD⟩ := join_r hPs hDs hk_60 hFc hP1 hD1
                obtain ⟨hP, hD⟩ := seg_join [[(a_r_, .inl (g 0, n_r_, .inl r_))], [(a_q_13, .inl (g 0, n_14, .inl q_15))]] [offS ad_61 tp_p_ hd_p_ tf_p_ cf_p_ g o_62] [[(a_r_, .inl (g 0, n_r_, .inl r_))], [(a_q_13, .inl (g 0, n_14, .inl q_15))], offS ad_61 tp_p_ hd_p_ tf_p_ cf_p_ g o_62] 3 [0, 1, 2] rfl rfl (by decide) hP hD
                have hP : va_P (dC, dI) vwCl ([(a_r_, .inl (g 0, n_r_, .inl r_)), (a_q_13, .inl (g 0, n_14, .inl q_15))] ++ (offS ad_61 tp_p_ hd_p_ tf_p_ cf_p_ g o_62)) H_60 := hP
                have hD : va_D A ([(a_r_, .inl (g 0, n_r_, .inl r_)), (a_q_13, .inl (g 0, n_14, .inl q_15))] ++ (offS ad_61 tp_p_ hd_p_ tf_p_ cf_p_ g o_62)) := hD
                refine W.widen (k := 16384) (n := 99274) (by omega) (by omega) ?_
                refine lv_aload hx hb dL_areRuns_332 (lv_at hl 6 rfl) ?_
                refine va_alen hx hb hK hP 1 0 rfl rfl (v := nI n_14) rfl dL_areRuns_334 ?_
                refine lv_icmp_lt (tgt := 377) hx hb dL_areRuns_335 (by decide) (fun c_63 => ?_) (fun c_63 => ?_)
                · have hw := hw.1 c_63
                  refine lv_iconst (v := 0) hx hb dL_areRuns_377 (by decide) ?_
                  refine W.widen (k := 16392) (n := 99322) (by omega) (by omega) ?_
                  subst hQM
                  obtain ⟨hP, hD⟩ := seg_sub (segs := [[(a_r_, .inl (g 0, n_r_, .inl r_))], [(a_q_13, .inl (g 0, n_14, .inl q_15))], offS ad_61 tp_p_ hd_p_ tf_p_ cf_p_ g o_62]) [[(a_r_, .inl (g 0, n_r_, .inl r_))], offS ad_61 tp_p_ hd_p_ tf_p_ cf_p_ g o_62] [[(a_q_13, .inl (g 0, n_14, .inl q_15))]] 3 [0, 2, 1] rfl rfl (by decide) hP hD
                  exact W.zret (v := 0) hx hb hr rfl (fun t ht hW => ⟨⟨_, (ad_61, o_62, ()), rfl, ⟨false, rfl, ⟨hw, had_61⟩⟩, ⟨P_at ht hP, hD⟩⟩, hS.F ht⟩) hS.2.2 dL_areRuns_378
                · have hw := hw.2 c_63
                  refine lv_aload_n hx hb dL_areRuns_338 rfl (lv_at hl 1 rfl) ?_
                  refine lv_iload_n hx hb dL_areRuns_339 rfl (lv_at hl 2 rfl) ?_
                  refine lv_iload_n hx hb dL_areRuns_340 rfl (lv_at hl 3 rfl) ?_
                  obtain ⟨hPs, hDs⟩ := seg_call (segs := [[(a_r_, .inl (g 0, n_r_, .inl r_))], [(a_q_13, .inl (g 0, n_14, .inl q_15))], offS ad_61 tp_p_ hd_p_ tf_p_ cf_p_ g o_62]) [[(a_r_, .inl (g 0, n_r_, .inl r_))], [(a_q_13, .inl (g 0, n_14, .inl q_15))]] [offS ad_61 tp_p_ hd_p_ tf_p_ cf_p_ g o_62] 3 [0, 1, 2] rfl rfl (by decide) hP hD
                  have hPc : va_P (dC, dI) vwCl (offS ad_61 tp_p_ hd_p_ tf_p_ cf_p_ g o_62) H_60 := P_r hPs
                  have hDc : va_D A (offS ad_61 tp_p_ hd_p_ tf_p_ cf_p_ g o_62) := D_r hDs
                  have hFc : ∀ q, va_A (offS ad_61 tp_p_ hd_p_ tf_p_ cf_p_ g o_62) H_60.size q → A q := A_all hDc hA hS.1
                  refine vx_calli (vx_runV (As := [.int tape, .int order]) (rest := []) ⟨hx, hb, hml, hown, hts⟩ (p_isSorted l hlf dC dI g tp_p_ hd_p_ tf_p_ cf_p_ htf_p_ hcf_p_ ad_61 t_p_ had_61 o_62 tape order (hw := hw) (sz := H_60.size)) (cwV 2 hts (gqV aw_5_228 aw_5_229 aw_5_230 aw_1_1 aw_5_231) rfl rfl rfl (by decide +kernel) ⟨Nat.le_of_ble_eq_true rfl, Nat.le_of_ble_eq_true rfl⟩) ⟨PG_blind, off_recv had_61 hK hPc, PG_call hK hG hS hPc hDc hFc⟩ rfl rfl hl.1 rfl (lv_room (Nat.le_of_ble_eq_true rfl)) dL_areRuns_341 ⟨by rw [hrc]; omega, by rw [hrs]; omega⟩) hS (fun q _ h => hFc q h) hFc (fun q _ h => hFc q h) (fun E ce q9 ux t H1 locs1 ht hvm hp9 hB9 hz hk hS9 hce hcv hcl => ?_) (fun r_64 u_64 t_64 H_64 L_64 ht_64 hvm_64 hw_64 hB_64 hz_64 hk_64 hS => ?_)
                  · exact (hB9.1.1).elim
                  obtain ⟨ad_65, o_66⟩ := u_64
                  obtain ⟨b_64, rfl, ⟨hw, had_65⟩⟩ := hw_64
                  rw [ht_64] at hB_64
                  obtain ⟨hP1, hD1⟩ := hB_64
                  obtain ⟨hP, hD⟩ := join_r hPs hDs hk_64 hFc hP1 hD1
                  obtain ⟨hP, hD⟩ := seg_join [[(a_r_, .inl (g 0, n_r_, .inl r_))], [(a_q_13, .inl (g 0, n_14, .inl q_15))]] [offS ad_65 tp_p_ hd_p_ tf_p_ cf_p_ g o_66] [[(a_r_, .inl (g 0, n_r_, .inl r_))], [(a_q_13, .inl (g 0, n_14, .inl q_15))], offS ad_65 tp_p_ hd_p_ tf_p_ cf_p_ g o_66] 3 [0, 1, 2] rfl rfl (by decide) hP hD
                  have hP : va_P (dC, dI) vwCl ([(a_r_, .inl (g 0, n_r_, .inl r_)), (a_q_13, .inl (g 0, n_14, .inl q_15))] ++ (offS ad_65 tp_p_ hd_p_ tf_p_ cf_p_ g o_66)) H_64 := hP
                  have hD : va_D A ([(a_r_, .inl (g 0, n_r_, .inl r_)), (a_q_13, .inl (g 0, n_14, .inl q_15))] ++ (offS ad_65 tp_p_ hd_p_ tf_p_ cf_p_ g o_66)) := hD
                  refine W.widen (k := 16386) (n := 99286) (by omega) (by omega) ?_
                  refine lv_aload_n hx hb dL_areRuns_344 rfl (lv_at hl 1 rfl) ?_
                  refine lv_iload_n hx hb dL_areRuns_345 rfl (lv_at hl 2 rfl) ?_
                  obtain ⟨hPs, hDs⟩ := seg_call (segs := [[(a_r_, .inl (g 0, n_r_, .inl r_))], [(a_q_13, .inl (g 0, n_14, .inl q_15))], offS ad_65 tp_p_ hd_p_ tf_p_ cf_p_ g o_66]) [[(a_r_, .inl (g 0, n_r_, .inl r_))], [(a_q_13, .inl (g 0, n_14, .inl q_15))]] [offS ad_65 tp_p_ hd_p_ tf_p_ cf_p_ g o_66] 3 [0, 1, 2] rfl rfl (by decide) hP hD
                  have hPc : va_P (dC, dI) vwCl (offS ad_65 tp_p_ hd_p_ tf_p_ cf_p_ g o_66) H_64 := P_r hPs
                  have hDc : va_D A (offS ad_65 tp_p_ hd_p_ tf_p_ cf_p_ g o_66) := D_r hDs
                  have hFc : ∀ q, va_A (offS ad_65 tp_p_ hd_p_ tf_p_ cf_p_ g o_66) H_64.size q → A q := A_all hDc hA hS.1
                  refine vx_calli (vx_runV (As := [.int tape]) (rest := [.int (b2i b_64)]) ⟨hx, hb, hml, hown, hts⟩ (p_runs l hlf dC dI g tp_p_ hd_p_ tf_p_ cf_p_ htf_p_ hcf_p_ ad_65 t_p_ had_65 o_66 tape (hw := hw) (sz := H_64.size)) (cwV 1 hts (gqV aw_3_177 aw_3_178 aw_3_179 aw_1_1 aw_3_180) rfl rfl rfl (by decide +kernel) ⟨Nat.le_of_ble_eq_true rfl, Nat.le_of_ble_eq_true rfl⟩) ⟨PG_blind, off_recv had_65 hK hPc, PG_call hK hG hS hPc hDc hFc⟩ rfl rfl hl.1 rfl (lv_room (Nat.le_of_ble_eq_true rfl)) dL_areRuns_346 ⟨by rw [hrc]; omega, by rw [hrs]; omega⟩) hS (fun q _ h => hFc q h) hFc (fun q _ h => hFc q h) (fun E ce q9 ux t H1 locs1 ht hvm hp9 hB9 hz hk hS9 hce hcv hcl => ?_) (fun r_67 u_67 t_67 H_67 L_67 ht_67 hvm_67 hw_67 hB_67 hz_67 hk_67 hS => ?_)
                  · exact (hB9.1.1).elim
                  obtain ⟨ad_68, o_69⟩ := u_67
                  obtain ⟨hw, had_68⟩ := hw_67
                  rw [ht_67] at hB_67
                  obtain ⟨hP1, hD1⟩ := hB_67
                  obtain ⟨hP, hD⟩ := join_r hPs hDs hk_67 hFc hP1 hD1
                  obtain ⟨hP, hD⟩ := seg_join [[(a_r_, .inl (g 0, n_r_, .inl r_))], [(a_q_13, .inl (g 0, n_14, .inl q_15))]] [offS ad_68 tp_p_ hd_p_ tf_p_ cf_p_ g o_69] [[(a_r_, .inl (g 0, n_r_, .inl r_))], [(a_q_13, .inl (g 0, n_14, .inl q_15))], offS ad_68 tp_p_ hd_p_ tf_p_ cf_p_ g o_69] 3 [0, 1, 2] rfl rfl (by decide) hP hD
                  have hP : va_P (dC, dI) vwCl ([(a_r_, .inl (g 0, n_r_, .inl r_)), (a_q_13, .inl (g 0, n_14, .inl q_15))] ++ (offS ad_68 tp_p_ hd_p_ tf_p_ cf_p_ g o_69)) H_67 := hP
                  have hD : va_D A ([(a_r_, .inl (g 0, n_r_, .inl r_)), (a_q_13, .inl (g 0, n_14, .inl q_15))] ++ (offS ad_68 tp_p_ hd_p_ tf_p_ cf_p_ g o_69)) := hD
                  refine W.widen (k := 16387) (n := 99292) (by omega) (by omega) ?_
                  refine lv_iconst (v := 1) hx hb dL_areRuns_349 (by decide) ?_
                  have JN358 : ∀ (sk0_70 : Bool) (H : Heap) (locs : List Loc), (wj_L_areRuns_358 tape order way memory Q n_14 b_64 o_69) sk0_70 → va_P (dC, dI) vwCl ([(a_r_, .inl (g 0, n_r_, .inl r_)), (a_q_13, .inl (g 0, n_14, .inl q_15))] ++ (offS ad_68 tp_p_ hd_p_ tf_p_ cf_p_ g o_69)) H → va_D A ([(a_r_, .inl (g 0, n_r_, .inl r_)), (a_q_13, .inl (g 0, n_14, .inl q_15))] ++ (offS ad_68 tp_p_ hd_p_ tf_p_ cf_p_ g o_69)) → va_S A s.heap H locs → ∀ (ls : Array Slot), lv_has ls 13 [(0, .ref t_p_), (2, .int tape), (3, .int order), (4, .int way), (5, .int memory), (8, .ref a_q_13)] → W p l e (headSpec wqL_areRuns ({ frames := 10, cells := 16392, slots := 99322, locals := 174 })).room s m ([.ref t_p_, .ref a_r_, .int tape, .int order, .int way, .int memory] : List Value).toArray below meth c H locs 16387 99292 QM (F0 m 358 ls [.int (b2i sk0_70), .int (b2i b_64)]) := by
                    intro sk0_70 H locs hw hP hD hS ls hl
                    refine lv_icmp_ne (tgt := 377) hx hb dL_areRuns_358 (by decide) (fun c_71 => ?_) (fun c_71 => ?_)
                    · have hw := hw.2 c_71
                      refine lv_iconst (v := 0) hx hb dL_areRuns_377 (by decide) ?_
                      refine W.widen (k := 16392) (n := 99322) (by omega) (by omega) ?_
                      subst hQM
                      obtain ⟨hP, hD⟩ := seg_sub (segs := [[(a_r_, .inl (g 0, n_r_, .inl r_))], [(a_q_13, .inl (g 0, n_14, .inl q_15))], offS ad_68 tp_p_ hd_p_ tf_p_ cf_p_ g o_69]) [[(a_r_, .inl (g 0, n_r_, .inl r_))], offS ad_68 tp_p_ hd_p_ tf_p_ cf_p_ g o_69] [[(a_q_13, .inl (g 0, n_14, .inl q_15))]] 3 [0, 2, 1] rfl rfl (by decide) hP hD
                      exact W.zret (v := 0) hx hb hr rfl (fun t ht hW => ⟨⟨_, (ad_68, o_69, ()), rfl, ⟨false, rfl, ⟨hw, had_68⟩⟩, ⟨P_at ht hP, hD⟩⟩, hS.F ht⟩) hS.2.2 dL_areRuns_378
                    · have hw := hw.1 c_71
                      refine lv_aload_n hx hb dL_areRuns_361 rfl (lv_at hl 0 rfl) ?_
                      refine lv_iload_n hx hb dL_areRuns_362 rfl (lv_at hl 1 rfl) ?_
                      refine lv_iload_n hx hb dL_areRuns_363 rfl (lv_at hl 2 rfl) ?_
                      obtain ⟨hPs, hDs⟩ := seg_call (segs := [[(a_r_, .inl (g 0, n_r_, .inl r_))], [(a_q_13, .inl (g 0, n_14, .inl q_15))], offS ad_68 tp_p_ hd_p_ tf_p_ cf_p_ g o_69]) [[(a_r_, .inl (g 0, n_r_, .inl r_))], [(a_q_13, .inl (g 0, n_14, .inl q_15))]] [offS ad_68 tp_p_ hd_p_ tf_p_ cf_p_ g o_69] 3 [0, 1, 2] rfl rfl (by decide) hP hD
                      have hPc : va_P (dC, dI) vwCl (offS ad_68 tp_p_ hd_p_ tf_p_ cf_p_ g o_69) H := P_r hPs
                      have hDc : va_D A (offS ad_68 tp_p_ hd_p_ tf_p_ cf_p_ g o_69) := D_r hDs
                      have hFc : ∀ q, va_A (offS ad_68 tp_p_ hd_p_ tf_p_ cf_p_ g o_69) H.size q → A q := A_all hDc hA hS.1
                      refine vx_calli (vx_runV (As := [.int tape, .int order]) (rest := []) ⟨hx, hb, hml, hown, hts⟩ (p_isSorted l hlf dC dI g tp_p_ hd_p_ tf_p_ cf_p_ htf_p_ hcf_p_ ad_68 t_p_ had_68 o_69 tape order (hw := hw) (sz := H.size)) (cwV 2 hts (gqV aw_5_228 aw_5_229 aw_5_230 aw_1_1 aw_5_231) rfl rfl rfl (by decide +kernel) ⟨Nat.le_of_ble_eq_true rfl, Nat.le_of_ble_eq_true rfl⟩) ⟨PG_blind, off_recv had_68 hK hPc, PG_call hK hG hS hPc hDc hFc⟩ rfl rfl hl.1 rfl (lv_room (Nat.le_of_ble_eq_true rfl)) dL_areRuns_364 ⟨by rw [hrc]; omega, by rw [hrs]; omega⟩) hS (fun q _ h => hFc q h) hFc (fun q _ h => hFc q h) (fun E ce q9 ux t H1 locs1 ht hvm hp9 hB9 hz hk hS9 hce hcv hcl => ?_) (fun r_72 u_72 t_72 H_72 L_72 ht_72 hvm_72 hw_72 hB_72 hz_72 hk_72 hS => ?_)
                      · exact (hB9.1.1).elim
                      obtain ⟨ad_73, o_74⟩ := u_72
                      obtain ⟨b_72, rfl, ⟨hw, had_73⟩⟩ := hw_72
                      rw [ht_72] at hB_72
                      obtain ⟨hP1, hD1⟩ := hB_72
                      obtain ⟨hP, hD⟩ := join_r hPs hDs hk_72 hFc hP1 hD1
                      obtain ⟨hP, hD⟩ := seg_join [[(a_r_, .inl (g 0, n_r_, .inl r_))], [(a_q_13, .inl (g 0, n_14, .inl q_15))]] [offS ad_73 tp_p_ hd_p_ tf_p_ cf_p_ g o_74] [[(a_r_, .inl (g 0, n_r_, .inl r_))], [(a_q_13, .inl (g 0, n_14, .inl q_15))], offS ad_73 tp_p_ hd_p_ tf_p_ cf_p_ g o_74] 3 [0, 1, 2] rfl rfl (by decide) hP hD
                      have hP : va_P (dC, dI) vwCl ([(a_r_, .inl (g 0, n_r_, .inl r_)), (a_q_13, .inl (g 0, n_14, .inl q_15))] ++ (offS ad_73 tp_p_ hd_p_ tf_p_ cf_p_ g o_74)) H_72 := hP
                      have hD : va_D A ([(a_r_, .inl (g 0, n_r_, .inl r_)), (a_q_13, .inl (g 0, n_14, .inl q_15))] ++ (offS ad_73 tp_p_ hd_p_ tf_p_ cf_p_ g o_74)) := hD
                      refine W.widen (k := 16389) (n := 99304) (by omega) (by omega) ?_
                      have JN379 : ∀  (H : Heap) (locs : List Loc), (wj_L_areRuns_379 order way memory Q o_74)  → va_P (dC, dI) vwCl ([(a_r_, .inl (g 0, n_r_, .inl r_))] ++ (offS ad_73 tp_p_ hd_p_ tf_p_ cf_p_ g o_74)) H → va_D A ([(a_r_, .inl (g 0, n_r_, .inl r_))] ++ (offS ad_73 tp_p_ hd_p_ tf_p_ cf_p_ g o_74)) → va_S A s.heap H locs → ∀ (ls : Array Slot), lv_has ls 13 [(0, .ref t_p_), (3, .int order), (4, .int way), (5, .int memory)] → W p l e (headSpec wqL_areRuns ({ frames := 10, cells := 16392, slots := 99322, locals := 174 })).room s m ([.ref t_p_, .ref a_r_, .int tape, .int order, .int way, .int memory] : List Value).toArray below meth c H locs 16389 99304 QM (F0 m 379 ls []) := by
                        intro  H locs hw hP hD hS ls hl
                        refine lv_aload_n hx hb dL_areRuns_379 rfl (lv_at hl 0 rfl) ?_
                        refine lv_iload_n hx hb dL_areRuns_380 rfl (lv_at hl 1 rfl) ?_
                        refine lv_iload hx hb dL_areRuns_381 (lv_at hl 2 rfl) ?_
                        refine lv_iload hx hb dL_areRuns_383 (lv_at hl 3 rfl) ?_
                        obtain ⟨hPs, hDs⟩ := seg_call (segs := [[(a_r_, .inl (g 0, n_r_, .inl r_))], offS ad_73 tp_p_ hd_p_ tf_p_ cf_p_ g o_74]) [[(a_r_, .inl (g 0, n_r_, .inl r_))]] [offS ad_73 tp_p_ hd_p_ tf_p_ cf_p_ g o_74] 2 [0, 1] rfl rfl (by decide) hP hD
                        have hPc : va_P (dC, dI) vwCl (offS ad_73 tp_p_ hd_p_ tf_p_ cf_p_ g o_74) H := P_r hPs
                        have hDc : va_D A (offS ad_73 tp_p_ hd_p_ tf_p_ cf_p_ g o_74) := D_r hDs
                        have hFc : ∀ q, va_A (offS ad_73 tp_p_ hd_p_ tf_p_ cf_p_ g o_74) H.size q → A q := A_all hDc hA hS.1
                        refine vx_calli (vx_runV (As := [.int order, .int way, .int memory]) (rest := []) ⟨hx, hb, hml, hown, hts⟩ (p_setRuns l hlf dC dI g tp_p_ hd_p_ tf_p_ cf_p_ htf_p_ hcf_p_ ad_73 t_p_ had_73 o_74 order way memory (hw := hw) (sz := H.size)) (cwV 3 hts (gqV aw_3_154 aw_3_155 aw_3_156 aw_1_1 aw_3_157) rfl rfl rfl (by decide +kernel) ⟨Nat.le_of_ble_eq_true rfl, Nat.le_of_ble_eq_true rfl⟩) ⟨PG_blind, off_recv had_73 hK hPc, PG_call hK hG hS hPc hDc hFc⟩ rfl rfl hl.1 rfl (lv_room (Nat.le_of_ble_eq_true rfl)) dL_areRuns_385 ⟨by rw [hrc]; omega, by rw [hrs]; omega⟩) hS (fun q _ h => hFc q h) hFc (fun q _ h => hFc q h) (fun E ce q9 ux t H1 locs1 ht hvm hp9 hB9 hz hk hS9 hce hcv hcl => ?_) (fun r_75 u_75 t_75 H_75 L_75 ht_75 hvm_75 hw_75 hB_75 hz_75 hk_75 hS => ?_)
                        · exact (hB9.1.1).elim
                        obtain ⟨ad_76, o_77⟩ := u_75
                        obtain ⟨hw, had_76⟩ := hw_75
                        rw [ht_75] at hB_75
                        obtain ⟨hP1, hD1⟩ := hB_75
                        obtain ⟨hP, hD⟩ := join_r hPs hDs hk_75 hFc hP1 hD1
                        obtain ⟨hP, hD⟩ := seg_join [[(a_r_, .inl (g 0, n_r_, .inl r_))]] [offS ad_76 tp_p_ hd_p_ tf_p_ cf_p_ g o_77] [[(a_r_, .inl (g 0, n_r_, .inl r_))], offS ad_76 tp_p_ hd_p_ tf_p_ cf_p_ g o_77] 2 [0, 1] rfl rfl (by decide) hP hD
                        have hP : va_P (dC, dI) vwCl ([(a_r_, .inl (g 0, n_r_, .inl r_))] ++ (offS ad_76 tp_p_ hd_p_ tf_p_ cf_p_ g o_77)) H_75 := hP
                        have hD : va_D A ([(a_r_, .inl (g 0, n_r_, .inl r_))] ++ (offS ad_76 tp_p_ hd_p_ tf_p_ cf_p_ g o_77)) := hD
                        refine W.widen (k := 16392) (n := 99322) (by omega) (by omega) ?_
                        refine lv_istore (lv' := [(6, .int r_75), (0, .ref t_p_), (3, .int order), (4, .int way), (5, .int memory)]) hx hb dL_areRuns_388 hl (by decide) rfl (fun ls hl => ?_)
                        refine lv_iconst (v := 1) hx hb dL_areRuns_390 (by decide) ?_
                        refine W.widen (k := 16392) (n := 99322) (by omega) (by omega) ?_
                        subst hQM
                        exact W.zret (v := 1) hx hb hr rfl (fun t ht hW => ⟨⟨_, (ad_76, o_77, ()), rfl, ⟨true, rfl, ⟨hw, had_76⟩⟩, ⟨P_at ht hP, hD⟩⟩, hS.F ht⟩) hS.2.2 dL_areRuns_391
                      refine lv_if_eq (tgt := 379) hx hb dL_areRuns_367 (by decide) (fun c_78 => ?_) (fun c_78 => ?_)
                      · have hw := hw.1 (b2i_0 c_78)
                        obtain ⟨hP, hD⟩ := seg_sub (segs := [[(a_r_, .inl (g 0, n_r_, .inl r_))], [(a_q_13, .inl (g 0, n_14, .inl q_15))], offS ad_73 tp_p_ hd_p_ tf_p_ cf_p_ g o_74]) [[(a_r_, .inl (g 0, n_r_, .inl r_))], offS ad_73 tp_p_ hd_p_ tf_p_ cf_p_ g o_74] [[(a_q_13, .inl (g 0, n_14, .inl q_15))]] 3 [0, 2, 1] rfl rfl (by decide) hP hD
                        refine W.widen (k := 16389) (n := 99304) (by omega) (by omega) ?_
                        exact JN379  _ _ hw hP hD hS _ (lv_sub hl [0, 2, 3, 4] rfl)
                      · have hw := hw.2 (b2i_1 c_78)
                        refine lv_aload hx hb dL_areRuns_370 (lv_at hl 5 rfl) ?_
                        refine va_alen hx hb hK hP 1 0 rfl rfl (v := nI n_14) rfl dL_areRuns_372 ?_
                        refine lv_iconst (v := 1) hx hb dL_areRuns_373 (by decide) ?_
                        refine lv_icmp_le (tgt := 379) hx hb dL_areRuns_374 (by decide) (fun c_79 => ?_) (fun c_79 => ?_)
                        · have hw := hw.1 c_79
                          obtain ⟨hP, hD⟩ := seg_sub (segs := [[(a_r_, .inl (g 0, n_r_, .inl r_))], [(a_q_13, .inl (g 0, n_14, .inl q_15))], offS ad_73 tp_p_ hd_p_ tf_p_ cf_p_ g o_74]) [[(a_r_, .inl (g 0, n_r_, .inl r_))], offS ad_73 tp_p_ hd_p_ tf_p_ cf_p_ g o_74] [[(a_q_13, .inl (g 0, n_14, .inl q_15))]] 3 [0, 2, 1] rfl rfl (by decide) hP hD
                          refine W.widen (k := 16389) (n := 99304) (by omega) (by omega) ?_
                          exact JN379  _ _ hw hP hD hS _ (lv_sub hl [0, 2, 3, 4] rfl)
                        · have hw := hw.2 c_79
                          refine lv_iconst (v := 0) hx hb dL_areRuns_377 (by decide) ?_
                          refine W.widen (k := 16392) (n := 99322) (by omega) (by omega) ?_
                          subst hQM
                          obtain ⟨hP, hD⟩ := seg_sub (segs := [[(a_r_, .inl (g 0, n_r_, .inl r_))], [(a_q_13, .inl (g 0, n_14, .inl q_15))], offS ad_73 tp_p_ hd_p_ tf_p_ cf_p_ g o_74]) [[(a_r_, .inl (g 0, n_r_, .inl r_))], offS ad_73 tp_p_ hd_p_ tf_p_ cf_p_ g o_74] [[(a_q_13, .inl (g 0, n_14, .inl q_15))]] 3 [0, 2, 1] rfl rfl (by decide) hP hD
                          exact W.zret (v := 0) hx hb hr rfl (fun t ht hW => ⟨⟨_, (ad_73, o_74, ()), rfl, ⟨false, rfl, ⟨hw, had_73⟩⟩, ⟨P_at ht hP, hD⟩⟩, hS.F ht⟩) hS.2.2 dL_areRuns_378
                  refine lv_icmp_gt (tgt := 357) hx hb dL_areRuns_350 (by decide) (fun c_80 => ?_) (fun c_80 => ?_)
                  · have hw := hw.1 c_80
                    refine lv_iconst (v := 0) hx hb dL_areRuns_357 (by decide) ?_
                    refine W.widen (k := 16387) (n := 99292) (by omega) (by omega) ?_
                    exact JN358 false _ _ hw hP hD hS _ (lv_sub hl [1, 2, 3, 4, 5, 6] rfl)
                  · have hw := hw.2 c_80
                    refine lv_iconst (v := 1) hx hb dL_areRuns_353 (by decide) ?_
                    refine lv_goto (tgt := 358) hx hb dL_areRuns_354 (by decide) ?_
                    refine W.widen (k := 16387) (n := 99292) (by omega) (by omega) ?_
                    exact JN358 true _ _ hw hP hD hS _ (lv_sub hl [1, 2, 3, 4, 5, 6] rfl)
            refine lv_if_le (tgt := 311) hx hb dL_areRuns_288 (by decide) (fun c_81 => ?_) (fun c_81 => ?_)
            · have hw := hw.1 c_81
              refine W.widen (k := 16380) (n := 99250) (by omega) (by omega) ?_
              exact JN311 o_52 ad_51 had_51 _ _ hw hP hD hS _ (lv_sub hl [0, 1, 2, 3, 4, 5] rfl)
            · have hw := hw.2 c_81
              refine lv_aload_n hx hb dL_areRuns_291 rfl (lv_at hl 0 rfl) ?_
              refine lv_bipush (v := 6) hx hb dL_areRuns_292 (by decide) ?_
              refine lv_iload_n hx hb dL_areRuns_294 rfl (lv_at hl 1 rfl) ?_
              refine lv_iconst (v := 0) hx hb dL_areRuns_295 (by decide) ?_
              refine lv_aload hx hb dL_areRuns_296 (lv_at hl 5 rfl) ?_
              refine lv_iconst (v := 0) hx hb dL_areRuns_298 (by decide) ?_
              refine va_iald hx hb hK hP 1 0 rfl rfl hw.1 dL_areRuns_299 ?_
              have hw := hw.2
              refine lv_topi (fun x_82 ex_82 => ?_)
              have hw := hw x_82 ex_82
              obtain ⟨hPs, hDs⟩ := seg_call (segs := [[(a_r_, .inl (g 0, n_r_, .inl r_))], [(a_q_13, .inl (g 0, n_14, .inl q_15))], offS ad_51 tp_p_ hd_p_ tf_p_ cf_p_ g o_52]) [[(a_r_, .inl (g 0, n_r_, .inl r_))], [(a_q_13, .inl (g 0, n_14, .inl q_15))]] [offS ad_51 tp_p_ hd_p_ tf_p_ cf_p_ g o_52] 3 [0, 1, 2] rfl rfl (by decide) hP hD
              have hPc : va_P (dC, dI) vwCl (offS ad_51 tp_p_ hd_p_ tf_p_ cf_p_ g o_52) H_50 := P_r hPs
              have hDc : va_D A (offS ad_51 tp_p_ hd_p_ tf_p_ cf_p_ g o_52) := D_r hDs
              have hFc : ∀ q, va_A (offS ad_51 tp_p_ hd_p_ tf_p_ cf_p_ g o_52) H_50.size q → A q := A_all hDc hA hS.1
              refine va_calli (vx_runSW (As := [.ref t_p_, .int 6, .int tape, .int 0, .int x_82]) (rest := []) ⟨hx, hb, hml, hown, hts⟩ (c_L_asks_6 l hlf dC dI g (tp_p_ := tp_p_) (hd_p_ := hd_p_) (tf_p_ := tf_p_) (cf_p_ := cf_p_) (htf_p_ := htf_p_) (hcf_p_ := hcf_p_) (a_p_ := ad_51) (t_p_ := t_p_) (h_p_ := had_51) (o_p_ := o_52) (a_ := tape) (b_ := 0) (c_ := x_82) (hw := hw) (sz := H_50.size)) (vx_cwSW 5 hts (gqS aw_4_45 aw_4_46 aw_1_0 aw_4_47) rfl rfl rfl (by decide +kernel) ⟨Nat.le_of_ble_eq_true rfl, Nat.le_of_ble_eq_true rfl⟩) ⟨PG_blind, PG_call hK hG hS hPc hDc hFc⟩ rfl rfl hl.1 rfl (lv_room (Nat.le_of_ble_eq_true rfl)) dL_areRuns_300 ⟨by rw [hrc]; omega, by rw [hrs]; omega⟩) hS (fun q _ h => hFc q h) hFc (fun r_83 u_83 t_83 H_83 L_83 ht_83 hvm_83 hw_83 hB_83 hz_83 hk_83 hS => ?_)
              obtain ⟨ad_84, o_85, u_83⟩ := u_83
              obtain ⟨hw, had_84⟩ := hw_83
              rw [ht_83] at hB_83
              obtain ⟨hP1, hD1⟩ := hB_83
              obtain ⟨hP, hD⟩ := join_r hPs hDs hk_83 hFc hP1 hD1
              obtain ⟨hP, hD⟩ := seg_join [[(a_r_, .inl (g 0, n_r_, .inl r_))], [(a_q_13, .inl (g 0, n_14, .inl q_15))]] [offS ad_84 tp_p_ hd_p_ tf_p_ cf_p_ g o_85] [[(a_r_, .inl (g 0, n_r_, .inl r_))], [(a_q_13, .inl (g 0, n_14, .inl q_15))], offS ad_84 tp_p_ hd_p_ tf_p_ cf_p_ g o_85] 3 [0, 1, 2] rfl rfl (by decide) hP hD
              have hP : va_P (dC, dI) vwCl ([(a_r_, .inl (g 0, n_r_, .inl r_)), (a_q_13, .inl (g 0, n_14, .inl q_15))] ++ (offS ad_84 tp_p_ hd_p_ tf_p_ cf_p_ g o_85)) H_83 := hP
              have hD : va_D A ([(a_r_, .inl (g 0, n_r_, .inl r_)), (a_q_13, .inl (g 0, n_14, .inl q_15))] ++ (offS ad_84 tp_p_ hd_p_ tf_p_ cf_p_ g o_85)) := hD
              refine W.widen (k := 16380) (n := 99250) (by omega) (by omega) ?_
              refine lv_sipush (v := (-20001)) hx hb dL_areRuns_303 (by decide) ?_
              refine lv_icmp_eq (tgt := 311) hx hb dL_areRuns_306 (by decide) (fun c_86 => ?_) (fun c_86 => ?_)
              · have hw := hw.1 c_86
                refine W.widen (k := 16380) (n := 99250) (by omega) (by omega) ?_
                exact JN311 o_85 ad_84 had_84 _ _ hw hP hD hS _ (lv_sub hl [0, 1, 2, 3, 4, 5] rfl)
              · have hw := hw.2 c_86
                refine lv_iconst (v := 0) hx hb dL_areRuns_309 (by decide) ?_
                refine W.widen (k := 16392) (n := 99322) (by omega) (by omega) ?_
                subst hQM
                obtain ⟨hP, hD⟩ := seg_sub (segs := [[(a_r_, .inl (g 0, n_r_, .inl r_))], [(a_q_13, .inl (g 0, n_14, .inl q_15))], offS ad_84 tp_p_ hd_p_ tf_p_ cf_p_ g o_85]) [[(a_r_, .inl (g 0, n_r_, .inl r_))], offS ad_84 tp_p_ hd_p_ tf_p_ cf_p_ g o_85] [[(a_q_13, .inl (g 0, n_14, .inl q_15))]] 3 [0, 2, 1] rfl rfl (by decide) hP hD
                exact W.zret (v := 0) hx hb hr rfl (fun t ht hW => ⟨⟨_, (ad_84, o_85, ()), rfl, ⟨false, rfl, ⟨hw, had_84⟩⟩, ⟨P_at ht hP, hD⟩⟩, hS.F ht⟩) hS.2.2 dL_areRuns_310
        refine lv_icmp_ne (tgt := 268) hx hb dL_areRuns_255 (by decide) (fun c_87 => ?_) (fun c_87 => ?_)
        · have hw := hw.2 c_87
          obtain ⟨hP, hD⟩ := seg_sub (segs := [[(a_r_, .inl (g 0, n_r_, .inl r_))], [(a_q_7, .inl (g 0, n_8, .inl q_9))], [(a_q_13, .inl (g 0, n_14, .inl q_15))], [(a_q_16, .inl (g 0, n_19, .inl q28_33))], [(a_q_39, .inl (g 0, n_40, .inl q_41))], [(a_q_45, .inl (g 0, n_46, .inl q_47))], offS ad_43 tp_p_ hd_p_ tf_p_ cf_p_ g o_44]) [[(a_r_, .inl (g 0, n_r_, .inl r_))], [(a_q_13, .inl (g 0, n_14, .inl q_15))], offS ad_43 tp_p_ hd_p_ tf_p_ cf_p_ g o_44] [[(a_q_7, .inl (g 0, n_8, .inl q_9))], [(a_q_16, .inl (g 0, n_19, .inl q28_33))], [(a_q_39, .inl (g 0, n_40, .inl q_41))], [(a_q_45, .inl (g 0, n_46, .inl q_47))]] 7 [0, 2, 6, 1, 3, 4, 5] rfl rfl (by decide) hP hD
          refine W.widen (k := 16374) (n := 99214) (by omega) (by omega) ?_
          exact JN268  _ _ hw hP hD hS _ (lv_sub hl [0, 1, 2, 3, 4, 6] rfl)
        · have hw := hw.1 c_87
          refine lv_aload hx hb dL_areRuns_258 (lv_at hl 7 rfl) ?_
          refine lv_aload hx hb dL_areRuns_260 (lv_at hl 5 rfl) ?_
          obtain ⟨hPs, hDs⟩ := seg_call (segs := [[(a_r_, .inl (g 0, n_r_, .inl r_))], [(a_q_7, .inl (g 0, n_8, .inl q_9))], [(a_q_13, .inl (g 0, n_14, .inl q_15))], [(a_q_16, .inl (g 0, n_19, .inl q28_33))], [(a_q_39, .inl (g 0, n_40, .inl q_41))], [(a_q_45, .inl (g 0, n_46, .inl q_47))], offS ad_43 tp_p_ hd_p_ tf_p_ cf_p_ g o_44]) [[(a_r_, .inl (g 0, n_r_, .inl r_))], [(a_q_13, .inl (g 0, n_14, .inl q_15))], [(a_q_39, .inl (g 0, n_40, .inl q_41))], [(a_q_45, .inl (g 0, n_46, .inl q_47))], offS ad_43 tp_p_ hd_p_ tf_p_ cf_p_ g o_44] [[(a_q_16, .inl (g 0, n_19, .inl q28_33))], [(a_q_7, .inl (g 0, n_8, .inl q_9))]] 7 [0, 2, 4, 5, 6, 3, 1] rfl rfl (by decide) hP hD
          have hPc : va_P (dC, dI) vwCl [(a_q_16, .inl (g 0, n_19, .inl q28_33)), (a_q_7, .inl (g 0, n_8, .inl q_9))] H_48 := P_r hPs
          have hDc : va_D A [(a_q_16, .inl (g 0, n_19, .inl q28_33)), (a_q_7, .inl (g 0, n_8, .inl q_9))] := D_r hDs
          have hFc : ∀ q, va_A [(a_q_16, .inl (g 0, n_19, .inl q28_33)), (a_q_7, .inl (g 0, n_8, .inl q_9))] H_48.size q → A q := A_all hDc hA hS.1
          refine va_calli (va_runS (As := [.ref a_q_16, .ref a_q_7]) (rest := []) ⟨hx, hb, hml, hown, hts⟩ (c_L_same l hlf dC dI g (a_a_ := a_q_16) (n_a_ := n_19) (a_ := q28_33) (a_b_ := a_q_7) (n_b_ := n_8) (b_ := q_9) (hw := hw) (sz := H_48.size)) (va_cwS 2 hts (gqS aw_4_42 aw_4_43 aw_1_0 aw_4_44) rfl rfl rfl (by decide +kernel) ⟨Nat.le_of_ble_eq_true rfl, Nat.le_of_ble_eq_true rfl⟩) ⟨PG_blind, PG_call hK hG hS hPc hDc hFc⟩ rfl rfl hl.1 rfl (lv_room (Nat.le_of_ble_eq_true rfl)) dL_areRuns_262 ⟨by rw [hrc]; omega, by rw [hrs]; omega⟩) hS (fun q _ h => hFc q h) hFc (fun r_88 u_88 t_88 H_88 L_88 ht_88 hvm_88 hw_88 hB_88 hz_88 hk_88 hS => ?_)
          obtain ⟨u_88⟩ := u_88
          obtain ⟨b_88, rfl, hw⟩ := hw_88
          rw [ht_88] at hB_88
          obtain ⟨hP1, hD1⟩ := hB_88
          obtain ⟨hP, hD⟩ := join_r hPs hDs hk_88 hFc hP1 hD1
          obtain ⟨hP, hD⟩ := seg_join [[(a_r_, .inl (g 0, n_r_, .inl r_))], [(a_q_13, .inl (g 0, n_14, .inl q_15))], [(a_q_39, .inl (g 0, n_40, .inl q_41))], [(a_q_45, .inl (g 0, n_46, .inl q_47))], offS ad_43 tp_p_ hd_p_ tf_p_ cf_p_ g o_44] [[(a_q_16, .inl (g 0, n_19, .inl q28_33))], [(a_q_7, .inl (g 0, n_8, .inl q_9))]] [[(a_r_, .inl (g 0, n_r_, .inl r_))], [(a_q_7, .inl (g 0, n_8, .inl q_9))], [(a_q_13, .inl (g 0, n_14, .inl q_15))], [(a_q_16, .inl (g 0, n_19, .inl q28_33))], [(a_q_39, .inl (g 0, n_40, .inl q_41))], [(a_q_45, .inl (g 0, n_46, .inl q_47))], offS ad_43 tp_p_ hd_p_ tf_p_ cf_p_ g o_44] 7 [0, 6, 1, 5, 2, 3, 4] rfl rfl (by decide) hP hD
          have hP : va_P (dC, dI) vwCl ([(a_r_, .inl (g 0, n_r_, .inl r_)), (a_q_7, .inl (g 0, n_8, .inl q_9)), (a_q_13, .inl (g 0, n_14, .inl q_15)), (a_q_16, .inl (g 0, n_19, .inl q28_33)), (a_q_39, .inl (g 0, n_40, .inl q_41)), (a_q_45, .inl (g 0, n_46, .inl q_47))] ++ (offS ad_43 tp_p_ hd_p_ tf_p_ cf_p_ g o_44)) H_88 := hP
          have hD : va_D A ([(a_r_, .inl (g 0, n_r_, .inl r_)), (a_q_7, .inl (g 0, n_8, .inl q_9)), (a_q_13, .inl (g 0, n_14, .inl q_15)), (a_q_16, .inl (g 0, n_19, .inl q28_33)), (a_q_39, .inl (g 0, n_40, .inl q_41)), (a_q_45, .inl (g 0, n_46, .inl q_47))] ++ (offS ad_43 tp_p_ hd_p_ tf_p_ cf_p_ g o_44)) := hD
          refine W.widen (k := 16374) (n := 99214) (by omega) (by omega) ?_
          refine lv_if_eq (tgt := 309) hx hb dL_areRuns_265 (by decide) (fun c_89 => ?_) (fun c_89 => ?_)
          · have hw := hw.1 (b2i_0 c_89)
            refine lv_iconst (v := 0) hx hb dL_areRuns_309 (by decide) ?_
            refine W.widen (k := 16392) (n := 99322) (by omega) (by omega) ?_
            subst hQM
            obtain ⟨hP, hD⟩ := seg_sub (segs := [[(a_r_, .inl (g 0, n_r_, .inl r_))], [(a_q_7, .inl (g 0, n_8, .inl q_9))], [(a_q_13, .inl (g 0, n_14, .inl q_15))], [(a_q_16, .inl (g 0, n_19, .inl q28_33))], [(a_q_39, .inl (g 0, n_40, .inl q_41))], [(a_q_45, .inl (g 0, n_46, .inl q_47))], offS ad_43 tp_p_ hd_p_ tf_p_ cf_p_ g o_44]) [[(a_r_, .inl (g 0, n_r_, .inl r_))], offS ad_43 tp_p_ hd_p_ tf_p_ cf_p_ g o_44] [[(a_q_7, .inl (g 0, n_8, .inl q_9))], [(a_q_13, .inl (g 0, n_14, .inl q_15))], [(a_q_16, .inl (g 0, n_19, .inl q28_33))], [(a_q_39, .inl (g 0, n_40, .inl q_41))], [(a_q_45, .inl (g 0, n_46, .inl q_47))]] 7 [0, 6, 1, 2, 3, 4, 5] rfl rfl (by decide) hP hD
            exact W.zret (v := 0) hx hb hr rfl (fun t ht hW => ⟨⟨_, (ad_43, o_44, ()), rfl, ⟨false, rfl, ⟨hw, had_43⟩⟩, ⟨P_at ht hP, hD⟩⟩, hS.F ht⟩) hS.2.2 dL_areRuns_310
          · have hw := hw.2 (b2i_1 c_89)
            obtain ⟨hP, hD⟩ := seg_sub (segs := [[(a_r_, .inl (g 0, n_r_, .inl r_))], [(a_q_7, .inl (g 0, n_8, .inl q_9))], [(a_q_13, .inl (g 0, n_14, .inl q_15))], [(a_q_16, .inl (g 0, n_19, .inl q28_33))], [(a_q_39, .inl (g 0, n_40, .inl q_41))], [(a_q_45, .inl (g 0, n_46, .inl q_47))], offS ad_43 tp_p_ hd_p_ tf_p_ cf_p_ g o_44]) [[(a_r_, .inl (g 0, n_r_, .inl r_))], [(a_q_13, .inl (g 0, n_14, .inl q_15))], offS ad_43 tp_p_ hd_p_ tf_p_ cf_p_ g o_44] [[(a_q_7, .inl (g 0, n_8, .inl q_9))], [(a_q_16, .inl (g 0, n_19, .inl q28_33))], [(a_q_39, .inl (g 0, n_40, .inl q_41))], [(a_q_45, .inl (g 0, n_46, .inl q_47))]] 7 [0, 2, 6, 1, 3, 4, 5] rfl rfl (by decide) hP hD
            refine W.widen (k := 16374) (n := 99214) (by omega) (by omega) ?_
            exact JN268  _ _ hw hP hD hS _ (lv_sub hl [0, 1, 2, 3, 4, 6] rfl)
  have LOOP38 : ∀ (n38 : Nat), n38 ≤ 42 → ∀ (v11_20 : Int32) (o_21 : OS) (v10_22 : Int32) (q28_23 : Nat → Int32) (ad_24 : Nat → Nat) (had_24 : ad_24 0 = t_p_) (H : Heap) (locs : List Loc), wl_L_areRuns_38 tape order way memory n_8 q_9 n_14 q_15 n_19 (wx_L_areRuns_38_55 Q) (wx_L_areRuns_38_109 Q) (wx_L_areRuns_38_216 Q) (wx_L_areRuns_38_224 tape order way memory Q n_8 q_9 n_14 q_15 n_19) n38 v11_20 o_21 v10_22 q28_23 → va_P (dC, dI) vwCl ([(a_r_, .inl (g 0, n_r_, .inl r_)), (a_q_7, .inl (g 0, n_8, .inl q_9)), (a_q_13, .inl (g 0, n_14, .inl q_15)), (a_q_16, .inl (g 0, n_19, .inl q28_23))] ++ (offS ad_24 tp_p_ hd_p_ tf_p_ cf_p_ g o_21)) H → va_D A ([(a_r_, .inl (g 0, n_r_, .inl r_)), (a_q_7, .inl (g 0, n_8, .inl q_9)), (a_q_13, .inl (g 0, n_14, .inl q_15)), (a_q_16, .inl (g 0, n_19, .inl q28_23))] ++ (offS ad_24 tp_p_ hd_p_ tf_p_ cf_p_ g o_21)) → va_S A s.heap H locs → ∀ (ls : Array Slot), lv_has ls 13 [(0, .ref t_p_), (2, .int tape), (3, .int order), (4, .int way), (5, .int memory), (7, .ref a_q_7), (8, .ref a_q_13), (9, .ref a_q_16), (10, .int v10_22), (11, .int v11_20)] → W p l e (headSpec wqL_areRuns ({ frames := 10, cells := 16392, slots := 99322, locals := 174 })).room s m ([.ref t_p_, .ref a_r_, .int tape, .int order, .int way, .int memory] : List Value).toArray below meth c H locs (9316 - n38 * 212) (56478 - n38 * 1272) QM (F0 m 38 ls []) := by
    intro n38
    induction n38 with
    | zero =>
      intro hle_n38
      intro v11_20 o_21 v10_22 q28_23 ad_24 had_24 H locs hw hP hD hS ls hl
      exact False.elim hw
    | succ n38 ih38 =>
      intro hle_n38
      have ih38 := ih38 (by omega)
      intro v11_20 o_21 v10_22 q28_23 ad_24 had_24 H locs hw hP hD hS ls hl
      rw [wl_L_areRuns_38_s] at hw
      obtain ⟨kb38, hkb38⟩ : ∃ x : Nat, x = 9316 - (n38 + 1) * 212 := ⟨_, rfl⟩
      obtain ⟨nb38, hnb38⟩ : ∃ x : Nat, x = 56478 - (n38 + 1) * 1272 := ⟨_, rfl⟩
      refine W.widen (k := kb38) (n := nb38) (by omega) (by omega) ?_
      refine lv_iload hx hb dL_areRuns_38 (lv_at hl 9 rfl) ?_
      refine lv_aload hx hb dL_areRuns_40 (lv_at hl 6 rfl) ?_
      refine va_alen hx hb hK hP 2 0 rfl rfl (v := nI n_14) rfl dL_areRuns_42 ?_
      refine lv_icmp_ge (tgt := 224) hx hb dL_areRuns_43 (by decide) (fun c_90 => ?_) (fun c_90 => ?_)
      · have hw := hw.1 c_90
        refine W.widen (k := 9316) (n := 56478) (by omega) (by omega) ?_
        exact EX38_224 o_21 v10_22 q28_23 ad_24 had_24 _ _ hw hP hD hS _ (lv_sub hl [0, 1, 2, 3, 4, 5, 6, 7, 8] rfl)
      · have hw := hw.2 c_90
        refine lv_aload hx hb dL_areRuns_46 (lv_at hl 6 rfl) ?_
        refine lv_iload hx hb dL_areRuns_48 (lv_at hl 9 rfl) ?_
        refine va_iald hx hb hK hP 2 0 rfl rfl hw.1 dL_areRuns_50 ?_
        have hw := hw.2
        refine lv_topi (fun x_91 ex_91 => ?_)
        have hw := hw x_91 ex_91
        refine lv_iconst (v := 1) hx hb dL_areRuns_51 (by decide) ?_
        refine lv_icmp_ge (tgt := 57) hx hb dL_areRuns_52 (by decide) (fun c_92 => ?_) (fun c_92 => ?_)
        · have hw := hw.1 c_92
          refine lv_iconst (v := 0) hx hb dL_areRuns_57 (by decide) ?_
          refine lv_istore (lv' := [(12, .int 0), (0, .ref t_p_), (2, .int tape), (3, .int order), (4, .int way), (5, .int memory), (7, .ref a_q_7), (8, .ref a_q_13), (9, .ref a_q_16), (10, .int v10_22), (11, .int v11_20)]) hx hb dL_areRuns_58 hl (by decide) rfl (fun ls hl => ?_)
          have EX60_109 : ∀ (o_98 : OS) (ad_99 : Nat → Nat) (had_99 : ad_99 0 = t_p_) (H : Heap) (locs : List Loc), (wx_L_areRuns_60_109 (wx_L_areRuns_38_109 Q)) o_98 → va_P (dC, dI) vwCl ([(a_r_, .inl (g 0, n_r_, .inl r_))] ++ (offS ad_99 tp_p_ hd_p_ tf_p_ cf_p_ g o_98)) H → va_D A ([(a_r_, .inl (g 0, n_r_, .inl r_))] ++ (offS ad_99 tp_p_ hd_p_ tf_p_ cf_p_ g o_98)) → va_S A s.heap H locs → ∀ (ls : Array Slot), lv_has ls 13 [] → W p l e (headSpec wqL_areRuns ({ frames := 10, cells := 16392, slots := 99322, locals := 174 })).room s m ([.ref t_p_, .ref a_r_, .int tape, .int order, .int way, .int memory] : List Value).toArray below meth c H locs (kb38 + 210) (nb38 + 1260) QM (F0 m 109 ls []) := by
            intro o_98 ad_99 had_99 H locs hw hP hD hS ls hl
            refine W.widen (k := 9316) (n := 56478) (by omega) (by omega) ?_
            exact EX38_109 o_98 ad_99 had_99 _ _ hw hP hD hS _ (lv_sub hl [] rfl)
          have EX60_120 : ∀ (v10_100 : Int32) (q28_101 : Nat → Int32) (o_102 : OS) (ad_103 : Nat → Nat) (had_103 : ad_103 0 = t_p_) (H : Heap) (locs : List Loc), (wx_L_areRuns_60_120 order way memory n_8 q_9 n_14 q_15 v11_20 (wl_L_areRuns_38 tape order way memory n_8 q_9 n_14 q_15 n_19 (wx_L_areRuns_38_55 Q) (wx_L_areRuns_38_109 Q) (wx_L_areRuns_38_216 Q) (wx_L_areRuns_38_224 tape order way memory Q n_8 q_9 n_14 q_15 n_19) n38) (wx_L_areRuns_38_216 Q)) v10_100 q28_101 o_102 → va_P (dC, dI) vwCl ([(a_r_, .inl (g 0, n_r_, .inl r_)), (a_q_7, .inl (g 0, n_8, .inl q_9)), (a_q_13, .inl (g 0, n_14, .inl q_15)), (a_q_16, .inl (g 0, n_19, .inl q28_101))] ++ (offS ad_103 tp_p_ hd_p_ tf_p_ cf_p_ g o_102)) H → va_D A ([(a_r_, .inl (g 0, n_r_, .inl r_)), (a_q_7, .inl (g 0, n_8, .inl q_9)), (a_q_13, .inl (g 0, n_14, .inl q_15)), (a_q_16, .inl (g 0, n_19, .inl q28_101))] ++ (offS ad_103 tp_p_ hd_p_ tf_p_ cf_p_ g o_102)) → va_S A s.heap H locs → ∀ (ls : Array Slot), lv_has ls 13 [(0, .ref t_p_), (2, .int tape), (3, .int order), (4, .int way), (5, .int memory), (7, .ref a_q_7), (8, .ref a_q_13), (9, .ref a_q_16), (10, .int v10_100), (11, .int v11_20)] → W p l e (headSpec wqL_areRuns ({ frames := 10, cells := 16392, slots := 99322, locals := 174 })).room s m ([.ref t_p_, .ref a_r_, .int tape, .int order, .int way, .int memory] : List Value).toArray below meth c H locs (kb38 + 210) (nb38 + 1260) QM (F0 m 120 ls []) := by
            intro v10_100 q28_101 o_102 ad_103 had_103 H locs hw hP hD hS ls hl
            refine lv_iload hx hb dL_areRuns_120 (lv_at hl 3 rfl) ?_
            have JN147 : ∀  (H : Heap) (locs : List Loc), (wj_L_areRuns_147 order way memory n_8 q_9 n_14 q_15 v11_20 (wl_L_areRuns_38 tape order way memory n_8 q_9 n_14 q_15 n_19 (wx_L_areRuns_38_55 Q) (wx_L_areRuns_38_109 Q) (wx_L_areRuns_38_216 Q) (wx_L_areRuns_38_224 tape order way memory Q n_8 q_9 n_14 q_15 n_19) n38) (wx_L_areRuns_38_216 Q) v10_100 q28_101 o_102)  → va_P (dC, dI) vwCl ([(a_r_, .inl (g 0, n_r_, .inl r_)), (a_q_7, .inl (g 0, n_8, .inl q_9)), (a_q_13, .inl (g 0, n_14, .inl q_15)), (a_q_16, .inl (g 0, n_19, .inl q28_101))] ++ (offS ad_103 tp_p_ hd_p_ tf_p_ cf_p_ g o_102)) H → va_D A ([(a_r_, .inl (g 0, n_r_, .inl r_)), (a_q_7, .inl (g 0, n_8, .inl q_9)), (a_q_13, .inl (g 0, n_14, .inl q_15)), (a_q_16, .inl (g 0, n_19, .inl q28_101))] ++ (offS ad_103 tp_p_ hd_p_ tf_p_ cf_p_ g o_102)) → va_S A s.heap H locs → ∀ (ls : Array Slot), lv_has ls 13 [(0, .ref t_p_), (2, .int tape), (3, .int order), (4, .int way), (5, .int memory), (7, .ref a_q_7), (8, .ref a_q_13), (9, .ref a_q_16), (10, .int v10_100), (11, .int v11_20)] → W p l e (headSpec wqL_areRuns ({ frames := 10, cells := 16392, slots := 99322, locals := 174 })).room s m ([.ref t_p_, .ref a_r_, .int tape, .int order, .int way, .int memory] : List Value).toArray below meth c H locs (kb38 + 210) (nb38 + 1260) QM (F0 m 147 ls []) := by
              intro  H locs hw hP hD hS ls hl
              refine lv_iload hx hb dL_areRuns_147 (lv_at hl 3 rfl) ?_
              refine lv_iconst (v := 1) hx hb dL_areRuns_149 (by decide) ?_
              have JN173 : ∀  (H : Heap) (locs : List Loc), (wj_L_areRuns_173 order way n_8 q_9 n_14 q_15 v11_20 (wl_L_areRuns_38 tape order way memory n_8 q_9 n_14 q_15 n_19 (wx_L_areRuns_38_55 Q) (wx_L_areRuns_38_109 Q) (wx_L_areRuns_38_216 Q) (wx_L_areRuns_38_224 tape order way memory Q n_8 q_9 n_14 q_15 n_19) n38) (wx_L_areRuns_38_216 Q) v10_100 q28_101 o_102)  → va_P (dC, dI) vwCl ([(a_r_, .inl (g 0, n_r_, .inl r_)), (a_q_7, .inl (g 0, n_8, .inl q_9)), (a_q_13, .inl (g 0, n_14, .inl q_15)), (a_q_16, .inl (g 0, n_19, .inl q28_101))] ++ (offS ad_103 tp_p_ hd_p_ tf_p_ cf_p_ g o_102)) H → va_D A ([(a_r_, .inl (g 0, n_r_, .inl r_)), (a_q_7, .inl (g 0, n_8, .inl q_9)), (a_q_13, .inl (g 0, n_14, .inl q_15)), (a_q_16, .inl (g 0, n_19, .inl q28_101))] ++ (offS ad_103 tp_p_ hd_p_ tf_p_ cf_p_ g o_102)) → va_S A s.heap H locs → ∀ (ls : Array Slot), lv_has ls 13 [(0, .ref t_p_), (2, .int tape), (3, .int order), (4, .int way), (5, .int memory), (7, .ref a_q_7), (8, .ref a_q_13), (9, .ref a_q_16), (10, .int v10_100), (11, .int v11_20)] → W p l e (headSpec wqL_areRuns ({ frames := 10, cells := 16392, slots := 99322, locals := 174 })).room s m ([.ref t_p_, .ref a_r_, .int tape, .int order, .int way, .int memory] : List Value).toArray below meth c H locs (kb38 + 210) (nb38 + 1260) QM (F0 m 173 ls []) := by
                intro  H locs hw hP hD hS ls hl
                refine lv_iload hx hb dL_areRuns_173 (lv_at hl 3 rfl) ?_
                refine lv_iconst (v := 2) hx hb dL_areRuns_175 (by decide) ?_
                refine lv_icmp_ne (tgt := 218) hx hb dL_areRuns_176 (by decide) (fun c_104 => ?_) (fun c_104 => ?_)
                · have hw := hw.2 c_104
                  obtain ⟨x_105, ex_105⟩ : ∃ y : Int32, y = v11_20 + 1 := ⟨_, rfl⟩
                  have hw := hw x_105 ex_105
                  refine lv_iinc (v := x_105) (lv' := [(11, .int x_105), (0, .ref t_p_), (2, .int tape), (3, .int order), (4, .int way), (5, .int memory), (7, .ref a_q_7), (8, .ref a_q_13), (9, .ref a_q_16), (10, .int v10_100)]) hx hb dL_areRuns_218 hl (k := 9) rfl (by rw [ex_105]; rfl) (by decide) rfl (fun ls hl => ?_)
                  refine lv_goto (tgt := 38) hx hb dL_areRuns_221 (by decide) ?_
                  refine W.widen (k := (9316 - n38 * 212)) (n := (56478 - n38 * 1272)) (by omega) (by omega) ?_
                  exact ih38 x_105 o_102 v10_100 q28_101 ad_103 had_103 _ _ hw hP hD hS _ (lv_sub hl [1, 2, 3, 4, 5, 6, 7, 8, 9, 0] rfl)
                · have hw := hw.1 c_104
                  refine lv_iload hx hb dL_areRuns_179 (lv_at hl 9 rfl) ?_
                  refine lv_if_le (tgt := 218) hx hb dL_areRuns_181 (by decide) (fun c_106 => ?_) (fun c_106 => ?_)
                  · have hw := hw.1 c_106
                    obtain ⟨x_107, ex_107⟩ : ∃ y : Int32, y = v11_20 + 1 := ⟨_, rfl⟩
                    have hw := hw x_107 ex_107
                    refine lv_iinc (v := x_107) (lv' := [(11, .int x_107), (0, .ref t_p_), (2, .int tape), (3, .int order), (4, .int way), (5, .int memory), (7, .ref a_q_7), (8, .ref a_q_13), (9, .ref a_q_16), (10, .int v10_100)]) hx hb dL_areRuns_218 hl (k := 9) rfl (by rw [ex_107]; rfl) (by decide) rfl (fun ls hl => ?_)
                    refine lv_goto (tgt := 38) hx hb dL_areRuns_221 (by decide) ?_
                    refine W.widen (k := (9316 - n38 * 212)) (n := (56478 - n38 * 1272)) (by omega) (by omega) ?_
                    exact ih38 x_107 o_102 v10_100 q28_101 ad_103 had_103 _ _ hw hP hD hS _ (lv_sub hl [1, 2, 3, 4, 5, 6, 7, 8, 9, 0] rfl)
                  · have hw := hw.2 c_106
                    refine lv_aload_n hx hb dL_areRuns_184 rfl (lv_at hl 0 rfl) ?_
                    refine lv_aload hx hb dL_areRuns_185 (lv_at hl 5 rfl) ?_
                    refine lv_iload hx hb dL_areRuns_187 (lv_at hl 8 rfl) ?_
                    refine lv_aload hx hb dL_areRuns_189 (lv_at hl 6 rfl) ?_
                    refine lv_iload hx hb dL_areRuns_191 (lv_at hl 9 rfl) ?_
                    refine va_iald hx hb hK hP 2 0 rfl rfl hw.1 dL_areRuns_193 ?_
                    have hw := hw.2
                    refine lv_topi (fun x_108 ex_108 => ?_)
                    have hw := hw x_108 ex_108
                    refine lv_isub hx hb dL_areRuns_194 ?_
                    refine lv_topi (fun x_109 ex_109 => ?_)
                    have hw := hw x_109 ex_109
                    refine va_iald hx hb hK hP 1 0 rfl rfl hw.1 dL_areRuns_195 ?_
                    have hw := hw.2
                    refine lv_topi (fun x_110 ex_110 => ?_)
                    have hw := hw x_110 ex_110
                    refine lv_aload hx hb dL_areRuns_196 (lv_at hl 5 rfl) ?_
                    refine lv_iload hx hb dL_areRuns_198 (lv_at hl 8 rfl) ?_
                    refine lv_aload hx hb dL_areRuns_200 (lv_at hl 6 rfl) ?_
                    refine lv_iload hx hb dL_areRuns_202 (lv_at hl 9 rfl) ?_
                    refine va_iald hx hb hK hP 2 0 rfl rfl hw.1 dL_areRuns_204 ?_
                    have hw := hw.2
                    refine lv_topi (fun x_111 ex_111 => ?_)
                    have hw := hw x_111 ex_111
                    refine lv_isub hx hb dL_areRuns_205 ?_
                    refine lv_topi (fun x_112 ex_112 => ?_)
                    have hw := hw x_112 ex_112
                    refine lv_iconst (v := 1) hx hb dL_areRuns_206 (by decide) ?_
                    refine lv_isub hx hb dL_areRuns_207 ?_
                    refine lv_topi (fun x_113 ex_113 => ?_)
                    have hw := hw x_113 ex_113
                    refine va_iald hx hb hK hP 1 0 rfl rfl hw.1 dL_areRuns_208 ?_
                    have hw := hw.2
                    refine lv_topi (fun x_114 ex_114 => ?_)
                    have hw := hw x_114 ex_114
                    refine lv_iload_n hx hb dL_areRuns_209 rfl (lv_at hl 2 rfl) ?_
                    obtain ⟨hPs, hDs⟩ := seg_call (segs := [[(a_r_, .inl (g 0, n_r_, .inl r_))], [(a_q_7, .inl (g 0, n_8, .inl q_9))], [(a_q_13, .inl (g 0, n_14, .inl q_15))], [(a_q_16, .inl (g 0, n_19, .inl q28_101))], offS ad_103 tp_p_ hd_p_ tf_p_ cf_p_ g o_102]) [[(a_r_, .inl (g 0, n_r_, .inl r_))], [(a_q_7, .inl (g 0, n_8, .inl q_9))], [(a_q_13, .inl (g 0, n_14, .inl q_15))], [(a_q_16, .inl (g 0, n_19, .inl q28_101))]] [offS ad_103 tp_p_ hd_p_ tf_p_ cf_p_ g o_102] 5 [0, 1, 2, 3, 4] rfl rfl (by decide) hP hD
                    have hPc : va_P (dC, dI) vwCl (offS ad_103 tp_p_ hd_p_ tf_p_ cf_p_ g o_102) H := P_r hPs
                    have hDc : va_D A (offS ad_103 tp_p_ hd_p_ tf_p_ cf_p_ g o_102) := D_r hDs
                    have hFc : ∀ q, va_A (offS ad_103 tp_p_ hd_p_ tf_p_ cf_p_ g o_102) H.size q → A q := A_all hDc hA hS.1
                    refine va_calli (va_runS (As := [.ref t_p_, .int x_110, .int x_114, .int order]) (rest := []) ⟨hx, hb, hml, hown, hts⟩ (c_L_before l hlf dC dI g (tp_p_ := tp_p_) (hd_p_ := hd_p_) (tf_p_ := tf_p_) (cf_p_ := cf_p_) (htf_p_ := htf_p_) (hcf_p_ := hcf_p_) (a_p_ := ad_103) (t_p_ := t_p_) (h_p_ := had_103) (o_p_ := o_102) (one := x_110) (other := x_114) (order := order) (hw := hw) (sz := H.size)) (va_cwS 4 hts (gqS aw_4_18 aw_4_19 aw_1_0 aw_4_20) rfl rfl rfl (by decide +kernel) ⟨Nat.le_of_ble_eq_true rfl, Nat.le_of_ble_eq_true rfl⟩) ⟨PG_blind, PG_call hK hG hS hPc hDc hFc⟩ rfl rfl hl.1 rfl (lv_room (Nat.le_of_ble_eq_true rfl)) dL_areRuns_210 ⟨by rw [hrc]; omega, by rw [hrs]; omega⟩) hS (fun q _ h => hFc q h) hFc (fun r_115 u_115 t_115 H_115 L_115 ht_115 hvm_115 hw_115 hB_115 hz_115 hk_115 hS => ?_)
                    obtain ⟨ad_116, o_117, u_115⟩ := u_115
                    obtain ⟨b_115, rfl, ⟨hw, had_116⟩⟩ := hw_115
                    rw [ht_115] at hB_115
                    obtain ⟨hP1, hD1⟩ := hB_115
                    obtain ⟨hP, hD⟩ := join_r hPs hDs hk_115 hFc hP1 hD1
                    obtain ⟨hP, hD⟩ := seg_join [[(a_r_, .inl (g 0, n_r_, .inl r_))], [(a_q_7, .inl (g 0, n_8, .inl q_9))], [(a_q_13, .inl (g 0, n_14, .inl q_15))], [(a_q_16, .inl (g 0, n_19, .inl q28_101))]] [offS ad_116 tp_p_ hd_p_ tf_p_ cf_p_ g o_117] [[(a_r_, .inl (g 0, n_r_, .inl r_))], [(a_q_7, .inl (g 0, n_8, .inl q_9))], [(a_q_13, .inl (g 0, n_14, .inl q_15))], [(a_q_16, .inl (g 0, n_19, .inl q28_101))], offS ad_116 tp_p_ hd_p_ tf_p_ cf_p_ g o_117] 5 [0, 1, 2, 3, 4] rfl rfl (by decide) hP hD
                    have hP : va_P (dC, dI) vwCl ([(a_r_, .inl (g 0, n_r_, .inl r_)), (a_q_7, .inl (g 0, n_8, .inl q_9)), (a_q_13, .inl (g 0, n_14, .inl q_15)), (a_q_16, .inl (g 0, n_19, .inl q28_101))] ++ (offS ad_116 tp_p_ hd_p_ tf_p_ cf_p_ g o_117)) H_115 := hP
                    have hD : va_D A ([(a_r_, .inl (g 0, n_r_, .inl r_)), (a_q_7, .inl (g 0, n_8, .inl q_9)), (a_q_13, .inl (g 0, n_14, .inl q_15)), (a_q_16, .inl (g 0, n_19, .inl q28_101))] ++ (offS ad_116 tp_p_ hd_p_ tf_p_ cf_p_ g o_117)) := hD
                    refine W.widen (k := (kb38 + 212)) (n := (nb38 + 1272)) (by omega) (by omega) ?_
                    refine lv_if_ne (tgt := 218) hx hb dL_areRuns_213 (by decide) (fun c_118 => ?_) (fun c_118 => ?_)
                    · have hw := hw.2 (b2i_1 c_118)
                      obtain ⟨x_119, ex_119⟩ : ∃ y : Int32, y = v11_20 + 1 := ⟨_, rfl⟩
                      have hw := hw x_119 ex_119
                      refine lv_iinc (v := x_119) (lv' := [(11, .int x_119), (0, .ref t_p_), (2, .int tape), (3, .int order), (4, .int way), (5, .int memory), (7, .ref a_q_7), (8, .ref a_q_13), (9, .ref a_q_16), (10, .int v10_100)]) hx hb dL_areRuns_218 hl (k := 9) rfl (by rw [ex_119]; rfl) (by decide) rfl (fun ls hl => ?_)
                      refine lv_goto (tgt := 38) hx hb dL_areRuns_221 (by decide) ?_
                      refine W.widen (k := (9316 - n38 * 212)) (n := (56478 - n38 * 1272)) (by omega) (by omega) ?_
                      exact ih38 x_119 o_117 v10_100 q28_101 ad_116 had_116 _ _ hw hP hD hS _ (lv_sub hl [1, 2, 3, 4, 5, 6, 7, 8, 9, 0] rfl)
                    · have hw := hw.1 (b2i_0 c_118)
                      obtain ⟨hP, hD⟩ := seg_sub (segs := [[(a_r_, .inl (g 0, n_r_, .inl r_))], [(a_q_7, .inl (g 0, n_8, .inl q_9))], [(a_q_13, .inl (g 0, n_14, .inl q_15))], [(a_q_16, .inl (g 0, n_19, .inl q28_101))], offS ad_116 tp_p_ hd_p_ tf_p_ cf_p_ g o_117]) [[(a_r_, .inl (g 0, n_r_, .inl r_))], offS ad_116 tp_p_ hd_p_ tf_p_ cf_p_ g o_117] [[(a_q_7, .inl (g 0, n_8, .inl q_9))], [(a_q_13, .inl (g 0, n_14, .inl q_15))], [(a_q_16, .inl (g 0, n_19, .inl q28_101))]] 5 [0, 4, 1, 2, 3] rfl rfl (by decide) hP hD
                      refine W.widen (k := 9316) (n := 56478) (by omega) (by omega) ?_
                      exact EX38_216 o_117 ad_116 had_116 _ _ hw hP hD hS _ (lv_sub hl [] rfl)
              refine lv_icmp_ne (tgt := 173) hx hb dL_areRuns_150 (by decide) (fun c_120 => ?_) (fun c_120 => ?_)
              · have hw := hw.2 c_120
                refine W.widen (k := (kb38 + 210)) (n := (nb38 + 1260)) (by omega) (by omega) ?_
                exact JN173  _ _ hw hP hD hS _ (lv_sub hl [0, 1, 2, 3, 4, 5, 6, 7, 8, 9] rfl)
              · have hw := hw.1 c_120
                refine lv_iload hx hb dL_areRuns_153 (lv_at hl 9 rfl) ?_
                refine lv_aload hx hb dL_areRuns_155 (lv_at hl 6 rfl) ?_
                refine va_alen hx hb hK hP 2 0 rfl rfl (v := nI n_14) rfl dL_areRuns_157 ?_
                refine lv_iconst (v := 1) hx hb dL_areRuns_158 (by decide) ?_
                refine lv_isub hx hb dL_areRuns_159 ?_
                refine lv_topi (fun x_121 ex_121 => ?_)
                have hw := hw x_121 ex_121
                refine lv_icmp_ge (tgt := 173) hx hb dL_areRuns_160 (by decide) (fun c_122 => ?_) (fun c_122 => ?_)
                · have hw := hw.1 c_122
                  refine W.widen (k := (kb38 + 210)) (n := (nb38 + 1260)) (by omega) (by omega) ?_
                  exact JN173  _ _ hw hP hD hS _ (lv_sub hl [0, 1, 2, 3, 4, 5, 6, 7, 8, 9] rfl)
                · have hw := hw.2 c_122
                  refine lv_aload hx hb dL_areRuns_163 (lv_at hl 6 rfl) ?_
                  refine lv_iload hx hb dL_areRuns_165 (lv_at hl 9 rfl) ?_
                  refine va_iald hx hb hK hP 2 0 rfl rfl hw.1 dL_areRuns_167 ?_
                  have hw := hw.2
                  refine lv_topi (fun x_123 ex_123 => ?_)
                  have hw := hw x_123 ex_123
                  refine lv_iload hx hb dL_areRuns_168 (lv_at hl 4 rfl) ?_
                  refine lv_icmp_lt (tgt := 216) hx hb dL_areRuns_170 (by decide) (fun c_124 => ?_) (fun c_124 => ?_)
                  · have hw := hw.1 c_124
                    obtain ⟨hP, hD⟩ := seg_sub (segs := [[(a_r_, .inl (g 0, n_r_, .inl r_))], [(a_q_7, .inl (g 0, n_8, .inl q_9))], [(a_q_13, .inl (g 0, n_14, .inl q_15))], [(a_q_16, .inl (g 0, n_19, .inl q28_101))], offS ad_103 tp_p_ hd_p_ tf_p_ cf_p_ g o_102]) [[(a_r_, .inl (g 0, n_r_, .inl r_))], offS ad_103 tp_p_ hd_p_ tf_p_ cf_p_ g o_102] [[(a_q_7, .inl (g 0, n_8, .inl q_9))], [(a_q_13, .inl (g 0, n_14, .inl q_15))], [(a_q_16, .inl (g 0, n_19, .inl q28_101))]] 5 [0, 4, 1, 2, 3] rfl rfl (by decide) hP hD
                    refine W.widen (k := 9316) (n := 56478) (by omega) (by omega) ?_
                    exact EX38_216 o_102 ad_103 had_103 _ _ hw hP hD hS _ (lv_sub hl [] rfl)
                  · have hw := hw.2 c_124
                    refine W.widen (k := (kb38 + 210)) (n := (nb38 + 1260)) (by omega) (by omega) ?_
                    exact JN173  _ _ hw hP hD hS _ (lv_sub hl [0, 1, 2, 3, 4, 5, 6, 7, 8, 9] rfl)
            refine lv_if_ne (tgt := 147) hx hb dL_areRuns_122 (by decide) (fun c_125 => ?_) (fun c_125 => ?_)
            · have hw := hw.2 c_125
              refine W.widen (k := (kb38 + 210)) (n := (nb38 + 1260)) (by omega) (by omega) ?_
              exact JN147  _ _ hw hP hD hS _ (lv_sub hl [0, 1, 2, 3, 4, 5, 6, 7, 8, 9] rfl)
            · have hw := hw.1 c_125
              refine lv_aload hx hb dL_areRuns_125 (lv_at hl 6 rfl) ?_
              refine lv_iload hx hb dL_areRuns_127 (lv_at hl 9 rfl) ?_
              refine va_iald hx hb hK hP 2 0 rfl rfl hw.1 dL_areRuns_129 ?_
              have hw := hw.2
              refine lv_topi (fun x_126 ex_126 => ?_)
              have hw := hw x_126 ex_126
              refine lv_iload hx hb dL_areRuns_130 (lv_at hl 4 rfl) ?_
              refine lv_aload hx hb dL_areRuns_132 (lv_at hl 5 rfl) ?_
              refine va_alen hx hb hK hP 1 0 rfl rfl (v := nI n_8) rfl dL_areRuns_134 ?_
              refine lv_iload hx hb dL_areRuns_135 (lv_at hl 9 rfl) ?_
              refine lv_iload hx hb dL_areRuns_137 (lv_at hl 4 rfl) ?_
              refine lv_imul hx hb dL_areRuns_139 ?_
              refine lv_topi (fun x_127 ex_127 => ?_)
              have hw := hw x_127 ex_127
              refine lv_isub hx hb dL_areRuns_140 ?_
              refine lv_topi (fun x_128 ex_128 => ?_)
              have hw := hw x_128 ex_128
              refine va_mmin hx hb (hml.trans hl.1.symm) hown hmmin127_0 hmmin127_1 hmmin127_2 hmmin127_3 (Nat.le_of_ble_eq_true rfl) (Nat.le_of_ble_eq_true rfl) (by rw [hrc]; omega) (by rw [hrs]; omega) dL_areRuns_141 ?_
              refine lv_topi (fun x_129 ex_129 => ?_)
              have hw := hw x_129 ex_129
              refine lv_icmp_ne (tgt := 216) hx hb dL_areRuns_144 (by decide) (fun c_130 => ?_) (fun c_130 => ?_)
              · have hw := hw.2 c_130
                obtain ⟨hP, hD⟩ := seg_sub (segs := [[(a_r_, .inl (g 0, n_r_, .inl r_))], [(a_q_7, .inl (g 0, n_8, .inl q_9))], [(a_q_13, .inl (g 0, n_14, .inl q_15))], [(a_q_16, .inl (g 0, n_19, .inl q28_101))], offS ad_103 tp_p_ hd_p_ tf_p_ cf_p_ g o_102]) [[(a_r_, .inl (g 0, n_r_, .inl r_))], offS ad_103 tp_p_ hd_p_ tf_p_ cf_p_ g o_102] [[(a_q_7, .inl (g 0, n_8, .inl q_9))], [(a_q_13, .inl (g 0, n_14, .inl q_15))], [(a_q_16, .inl (g 0, n_19, .inl q28_101))]] 5 [0, 4, 1, 2, 3] rfl rfl (by decide) hP hD
                refine W.widen (k := 9316) (n := 56478) (by omega) (by omega) ?_
                exact EX38_216 o_102 ad_103 had_103 _ _ hw hP hD hS _ (lv_sub hl [] rfl)
              · have hw := hw.1 c_130
                refine W.widen (k := (kb38 + 210)) (n := (nb38 + 1260)) (by omega) (by omega) ?_
                exact JN147  _ _ hw hP hD hS _ (lv_sub hl [0, 1, 2, 3, 4, 5, 6, 7, 8, 9] rfl)
          have LOOP60 : ∀ (n60 : Nat), n60 ≤ 42 → ∀ (v12_93 : Int32) (v10_94 : Int32) (q28_95 : Nat → Int32) (o_96 : OS) (ad_97 : Nat → Nat) (had_97 : ad_97 0 = t_p_) (H : Heap) (locs : List Loc), wl_L_areRuns_60 tape order n_14 q_15 n_19 v11_20 (wx_L_areRuns_60_109 (wx_L_areRuns_38_109 Q)) (wx_L_areRuns_60_120 order way memory n_8 q_9 n_14 q_15 v11_20 (wl_L_areRuns_38 tape order way memory n_8 q_9 n_14 q_15 n_19 (wx_L_areRuns_38_55 Q) (wx_L_areRuns_38_109 Q) (wx_L_areRuns_38_216 Q) (wx_L_areRuns_38_224 tape order way memory Q n_8 q_9 n_14 q_15 n_19) n38) (wx_L_areRuns_38_216 Q)) n60 v12_93 v10_94 q28_95 o_96 → va_P (dC, dI) vwCl ([(a_r_, .inl (g 0, n_r_, .inl r_)), (a_q_7, .inl (g 0, n_8, .inl q_9)), (a_q_13, .inl (g 0, n_14, .inl q_15)), (a_q_16, .inl (g 0, n_19, .inl q28_95))] ++ (offS ad_97 tp_p_ hd_p_ tf_p_ cf_p_ g o_96)) H → va_D A ([(a_r_, .inl (g 0, n_r_, .inl r_)), (a_q_7, .inl (g 0, n_8, .inl q_9)), (a_q_13, .inl (g 0, n_14, .inl q_15)), (a_q_16, .inl (g 0, n_19, .inl q28_95))] ++ (offS ad_97 tp_p_ hd_p_ tf_p_ cf_p_ g o_96)) → va_S A s.heap H locs → ∀ (ls : Array Slot), lv_has ls 13 [(0, .ref t_p_), (2, .int tape), (3, .int order), (4, .int way), (5, .int memory), (7, .ref a_q_7), (8, .ref a_q_13), (9, .ref a_q_16), (10, .int v10_94), (11, .int v11_20), (12, .int v12_93)] → W p l e (headSpec wqL_areRuns ({ frames := 10, cells := 16392, slots := 99322, locals := 174 })).room s m ([.ref t_p_, .ref a_r_, .int tape, .int order, .int way, .int memory] : List Value).toArray below meth c H locs ((kb38 + 210) - n60 * 5) ((nb38 + 1260) - n60 * 30) QM (F0 m 60 ls []) := by
            intro n60
            induction n60 with
            | zero =>
              intro hle_n60
              intro v12_93 v10_94 q28_95 o_96 ad_97 had_97 H locs hw hP hD hS ls hl
              exact False.elim hw
            | succ n60 ih60 =>
              intro hle_n60
              have ih60 := ih60 (by omega)
              intro v12_93 v10_94 q28_95 o_96 ad_97 had_97 H locs hw hP hD hS ls hl
              rw [wl_L_areRuns_60_s] at hw
              obtain ⟨kb60, hkb60⟩ : ∃ x : Nat, x = (kb38 + 210) - (n60 + 1) * 5 := ⟨_, rfl⟩
              obtain ⟨nb60, hnb60⟩ : ∃ x : Nat, x = (nb38 + 1260) - (n60 + 1) * 30 := ⟨_, rfl⟩
              refine W.widen (k := kb60) (n := nb60) (by omega) (by omega) ?_
              refine lv_iload hx hb dL_areRuns_60 (lv_at hl 10 rfl) ?_
              refine lv_aload hx hb dL_areRuns_62 (lv_at hl 6 rfl) ?_
              refine lv_iload hx hb dL_areRuns_64 (lv_at hl 9 rfl) ?_
              refine va_iald hx hb hK hP 2 0 rfl rfl hw.1 dL_areRuns_66 ?_
              have hw := hw.2
              refine lv_topi (fun x_131 ex_131 => ?_)
              have hw := hw x_131 ex_131
              refine lv_icmp_ge (tgt := 120) hx hb dL_areRuns_67 (by decide) (fun c_132 => ?_) (fun c_132 => ?_)
              · have hw := hw.1 c_132
                refine W.widen (k := (kb38 + 210)) (n := (nb38 + 1260)) (by omega) (by omega) ?_
                exact EX60_120 v10_94 q28_95 o_96 ad_97 had_97 _ _ hw hP hD hS _ (lv_sub hl [0, 1, 2, 3, 4, 5, 6, 7, 8, 9] rfl)
              · have hw := hw.2 c_132
                refine lv_aload hx hb dL_areRuns_70 (lv_at hl 7 rfl) ?_
                refine lv_iload hx hb dL_areRuns_72 (lv_at hl 8 rfl) ?_
                refine lv_aload_n hx hb dL_areRuns_74 rfl (lv_at hl 0 rfl) ?_
                refine lv_iload_n hx hb dL_areRuns_75 rfl (lv_at hl 1 rfl) ?_
                refine lv_iload hx hb dL_areRuns_76 (lv_at hl 9 rfl) ?_
                refine lv_iload hx hb dL_areRuns_78 (lv_at hl 10 rfl) ?_
                obtain ⟨hPs, hDs⟩ := seg_call (segs := [[(a_r_, .inl (g 0, n_r_, .inl r_))], [(a_q_7, .inl (g 0, n_8, .inl q_9))], [(a_q_13, .inl (g 0, n_14, .inl q_15))], [(a_q_16, .inl (g 0, n_19, .inl q28_95))], offS ad_97 tp_p_ hd_p_ tf_p_ cf_p_ g o_96]) [[(a_r_, .inl (g 0, n_r_, .inl r_))], [(a_q_7, .inl (g 0, n_8, .inl q_9))], [(a_q_13, .inl (g 0, n_14, .inl q_15))], [(a_q_16, .inl (g 0, n_19, .inl q28_95))]] [offS ad_97 tp_p_ hd_p_ tf_p_ cf_p_ g o_96] 5 [0, 1, 2, 3, 4] rfl rfl (by decide) hP hD
                have hPc : va_P (dC, dI) vwCl (offS ad_97 tp_p_ hd_p_ tf_p_ cf_p_ g o_96) H := P_r hPs
                have hDc : va_D A (offS ad_97 tp_p_ hd_p_ tf_p_ cf_p_ g o_96) := D_r hDs
                have hFc : ∀ q, va_A (offS ad_97 tp_p_ hd_p_ tf_p_ cf_p_ g o_96) H.size q → A q := A_all hDc hA hS.1
                refine vx_calli (vx_runV (As := [.int tape, .int v11_20, .int v12_93]) (rest := [.int v10_94, .ref a_q_16]) ⟨hx, hb, hml, hown, hts⟩ (p_runAt l hlf dC dI g tp_p_ hd_p_ tf_p_ cf_p_ htf_p_ hcf_p_ ad_97 t_p_ had_97 o_96 tape v11_20 v12_93 (hw := hw) (sz := H.size)) (cwV 3 hts (gqV aw_4_7 aw_4_8 aw_4_9 aw_1_1 aw_4_10) rfl rfl rfl (by decide +kernel) ⟨Nat.le_of_ble_eq_true rfl, Nat.le_of_ble_eq_true rfl⟩) ⟨PG_blind, off_recv had_97 hK hPc, PG_call hK hG hS hPc hDc hFc⟩ rfl rfl hl.1 rfl (lv_room (Nat.le_of_ble_eq_true rfl)) dL_areRuns_80 ⟨by rw [hrc]; omega, by rw [hrs]; omega⟩) hS (fun q _ h => hFc q h) hFc (fun q _ h => hFc q h) (fun E ce q9 ux t H1 locs1 ht hvm hp9 hB9 hz hk hS9 hce hcv hcl => ?_) (fun r_133 u_133 t_133 H_133 L_133 ht_133 hvm_133 hw_133 hB_133 hz_133 hk_133 hS => ?_)
                · exact (hB9.1.1).elim
                obtain ⟨ad_134, o_135⟩ := u_133
                obtain ⟨hw, had_134⟩ := hw_133
                rw [ht_133] at hB_133
                obtain ⟨hP1, hD1⟩ := hB_133
                obtain ⟨hP, hD⟩ := join_r hPs hDs hk_133 hFc hP1 hD1
                obtain ⟨hP, hD⟩ := seg_join [[(a_r_, .inl (g 0, n_r_, .inl r_))], [(a_q_7, .inl (g 0, n_8, .inl q_9))], [(a_q_13, .inl (g 0, n_14, .inl q_15))], [(a_q_16, .inl (g 0, n_19, .inl q28_95))]] [offS ad_134 tp_p_ hd_p_ tf_p_ cf_p_ g o_135] [[(a_r_, .inl (g 0, n_r_, .inl r_))], [(a_q_7, .inl (g 0, n_8, .inl q_9))], [(a_q_13, .inl (g 0, n_14, .inl q_15))], [(a_q_16, .inl (g 0, n_19, .inl q28_95))], offS ad_134 tp_p_ hd_p_ tf_p_ cf_p_ g o_135] 5 [0, 1, 2, 3, 4] rfl rfl (by decide) hP hD
                have hP : va_P (dC, dI) vwCl ([(a_r_, .inl (g 0, n_r_, .inl r_)), (a_q_7, .inl (g 0, n_8, .inl q_9)), (a_q_13, .inl (g 0, n_14, .inl q_15)), (a_q_16, .inl (g 0, n_19, .inl q28_95))] ++ (offS ad_134 tp_p_ hd_p_ tf_p_ cf_p_ g o_135)) H_133 := hP
                have hD : va_D A ([(a_r_, .inl (g 0, n_r_, .inl r_)), (a_q_7, .inl (g 0, n_8, .inl q_9)), (a_q_13, .inl (g 0, n_14, .inl q_15)), (a_q_16, .inl (g 0, n_19, .inl q28_95))] ++ (offS ad_134 tp_p_ hd_p_ tf_p_ cf_p_ g o_135)) := hD
                refine W.widen (k := (kb60 + 3)) (n := (nb60 + 18)) (by omega) (by omega) ?_
                refine va_iast hx hb hK hP hD hS 3 0 rfl rfl hw.1 dL_areRuns_83 (fun H_136 L_137 hP hD hS => ?_)
                have hw := hw.2
                have hP : va_P (dC, dI) vwCl ([(a_r_, .inl (g 0, n_r_, .inl r_)), (a_q_7, .inl (g 0, n_8, .inl q_9)), (a_q_13, .inl (g 0, n_14, .inl q_15)), (a_q_16, .inl (g 0, n_19, .inl (upd q28_95 v10_94.toNatClampNeg r_133)))] ++ (offS ad_134 tp_p_ hd_p_ tf_p_ cf_p_ g o_135)) H_136 := hP
                have hD : va_D A ([(a_r_, .inl (g 0, n_r_, .inl r_)), (a_q_7, .inl (g 0, n_8, .inl q_9)), (a_q_13, .inl (g 0, n_14, .inl q_15)), (a_q_16, .inl (g 0, n_19, .inl (upd q28_95 v10_94.toNatClampNeg r_133)))] ++ (offS ad_134 tp_p_ hd_p_ tf_p_ cf_p_ g o_135)) := hD
                refine lv_iload hx hb dL_areRuns_84 (lv_at hl 10 rfl) ?_
                refine lv_if_le (tgt := 111) hx hb dL_areRuns_86 (by decide) (fun c_138 => ?_) (fun c_138 => ?_)
                · have hw := hw.1 c_138
                  obtain ⟨x_139, ex_139⟩ : ∃ y : Int32, y = v10_94 + 1 := ⟨_, rfl⟩
                  have hw := hw x_139 ex_139
                  refine lv_iinc (v := x_139) (lv' := [(10, .int x_139), (0, .ref t_p_), (2, .int tape), (3, .int order), (4, .int way), (5, .int memory), (7, .ref a_q_7), (8, .ref a_q_13), (9, .ref a_q_16), (11, .int v11_20), (12, .int v12_93)]) hx hb dL_areRuns_111 hl (k := 8) rfl (by rw [ex_139]; rfl) (by decide) rfl (fun ls hl => ?_)
                  obtain ⟨x_140, ex_140⟩ : ∃ y : Int32, y = v12_93 + 1 := ⟨_, rfl⟩
                  have hw := hw x_140 ex_140
                  refine lv_iinc (v := x_140) (lv' := [(12, .int x_140), (10, .int x_139), (0, .ref t_p_), (2, .int tape), (3, .int order), (4, .int way), (5, .int memory), (7, .ref a_q_7), (8, .ref a_q_13), (9, .ref a_q_16), (11, .int v11_20)]) hx hb dL_areRuns_114 hl (k := 10) rfl (by rw [ex_140]; rfl) (by decide) rfl (fun ls hl => ?_)
                  refine lv_goto (tgt := 60) hx hb dL_areRuns_117 (by decide) ?_
                  refine W.widen (k := ((kb38 + 210) - n60 * 5)) (n := ((nb38 + 1260) - n60 * 30)) (by omega) (by omega) ?_
                  exact ih60 x_140 x_139 (upd q28_95 v10_94.toNatClampNeg r_133) o_135 ad_134 had_134 _ _ hw hP hD hS _ (lv_sub hl [2, 3, 4, 5, 6, 7, 8, 9, 1, 10, 0] rfl)
                · have hw := hw.2 c_138
                  refine lv_aload_n hx hb dL_areRuns_89 rfl (lv_at hl 0 rfl) ?_
                  refine lv_aload hx hb dL_areRuns_90 (lv_at hl 7 rfl) ?_
                  refine lv_iload hx hb dL_areRuns_92 (lv_at hl 8 rfl) ?_
                  refine va_iald hx hb hK hP 3 0 rfl rfl hw.1 dL_areRuns_94 ?_
                  have hw := hw.2
                  refine lv_topi (fun x_141 ex_141 => ?_)
                  have hw := hw x_141 ex_141
                  refine lv_aload hx hb dL_areRuns_95 (lv_at hl 7 rfl) ?_
                  refine lv_iload hx hb dL_areRuns_97 (lv_at hl 8 rfl) ?_
                  refine lv_iconst (v := 1) hx hb dL_areRuns_99 (by decide) ?_
                  refine lv_isub hx hb dL_areRuns_100 ?_
                  refine lv_topi (fun x_142 ex_142 => ?_)
                  have hw := hw x_142 ex_142
                  refine va_iald hx hb hK hP 3 0 rfl rfl hw.1 dL_areRuns_101 ?_
                  have hw := hw.2
                  refine lv_topi (fun x_143 ex_143 => ?_)
                  have hw := hw x_143 ex_143
                  refine lv_iload_n hx hb dL_areRuns_102 rfl (lv_at hl 2 rfl) ?_
                  obtain ⟨hPs, hDs⟩ := seg_call (segs := [[(a_r_, .inl (g 0, n_r_, .inl r_))], [(a_q_7, .inl (g 0, n_8, .inl q_9))], [(a_q_13, .inl (g 0, n_14, .inl q_15))], [(a_q_16, .inl (g 0, n_19, .inl (upd q28_95 v10_94.toNatClampNeg r_133)))], offS ad_134 tp_p_ hd_p_ tf_p_ cf_p_ g o_135]) [[(a_r_, .inl (g 0, n_r_, .inl r_))], [(a_q_7, .inl (g 0, n_8, .inl q_9))], [(a_q_13, .inl (g 0, n_14, .inl q_15))], [(a_q_16, .inl (g 0, n_19, .inl (upd q28_95 v10_94.toNatClampNeg r_133)))]] [offS ad_134 tp_p_ hd_p_ tf_p_ cf_p_ g o_135] 5 [0, 1, 2, 3, 4] rfl rfl (by decide) hP hD
                  have hPc : va_P (dC, dI) vwCl (offS ad_134 tp_p_ hd_p_ tf_p_ cf_p_ g o_135) H_136 := P_r hPs
                  have hDc : va_D A (offS ad_134 tp_p_ hd_p_ tf_p_ cf_p_ g o_135) := D_r hDs
                  have hFc : ∀ q, va_A (offS ad_134 tp_p_ hd_p_ tf_p_ cf_p_ g o_135) H_136.size q → A q := A_all hDc hA hS.1
                  refine va_calli (va_runS (As := [.ref t_p_, .int x_141, .int x_143, .int order]) (rest := []) ⟨hx, hb, hml, hown, hts⟩ (c_L_before l hlf dC dI g (tp_p_ := tp_p_) (hd_p_ := hd_p_) (tf_p_ := tf_p_) (cf_p_ := cf_p_) (htf_p_ := htf_p_) (hcf_p_ := hcf_p_) (a_p_ := ad_134) (t_p_ := t_p_) (h_p_ := had_134) (o_p_ := o_135) (one := x_141) (other := x_143) (order := order) (hw := hw) (sz := H_136.size)) (va_cwS 4 hts (gqS aw_4_18 aw_4_19 aw_1_0 aw_4_20) rfl rfl rfl (by decide +kernel) ⟨Nat.le_of_ble_eq_true rfl, Nat.le_of_ble_eq_true rfl⟩) ⟨PG_blind, PG_call hK hG hS hPc hDc hFc⟩ rfl rfl hl.1 rfl (lv_room (Nat.le_of_ble_eq_true rfl)) dL_areRuns_103 ⟨by rw [hrc]; omega, by rw [hrs]; omega⟩) hS (fun q _ h => hFc q h) hFc (fun r_144 u_144 t_144 H_144 L_144 ht_144 hvm_144 hw_144 hB_144 hz_144 hk_144 hS => ?_)
                  obtain ⟨ad_145, o_146, u_144⟩ := u_144
                  obtain ⟨b_144, rfl, ⟨hw, had_145⟩⟩ := hw_144
                  rw [ht_144] at hB_144
                  obtain ⟨hP1, hD1⟩ := hB_144
                  obtain ⟨hP, hD⟩ := join_r hPs hDs hk_144 hFc hP1 hD1
                  obtain ⟨hP, hD⟩ := seg_join [[(a_r_, .inl (g 0, n_r_, .inl r_))], [(a_q_7, .inl (g 0, n_8, .inl q_9))], [(a_q_13, .inl (g 0, n_14, .inl q_15))], [(a_q_16, .inl (g 0, n_19, .inl (upd q28_95 v10_94.toNatClampNeg r_133)))]] [offS ad_145 tp_p_ hd_p_ tf_p_ cf_p_ g o_146] [[(a_r_, .inl (g 0, n_r_, .inl r_))], [(a_q_7, .inl (g 0, n_8, .inl q_9))], [(a_q_13, .inl (g 0, n_14, .inl q_15))], [(a_q_16, .inl (g 0, n_19, .inl (upd q28_95 v10_94.toNatClampNeg r_133)))], offS ad_145 tp_p_ hd_p_ tf_p_ cf_p_ g o_146] 5 [0, 1, 2, 3, 4] rfl rfl (by decide) hP hD
                  have hP : va_P (dC, dI) vwCl ([(a_r_, .inl (g 0, n_r_, .inl r_)), (a_q_7, .inl (g 0, n_8, .inl q_9)), (a_q_13, .inl (g 0, n_14, .inl q_15)), (a_q_16, .inl (g 0, n_19, .inl (upd q28_95 v10_94.toNatClampNeg r_133)))] ++ (offS ad_145 tp_p_ hd_p_ tf_p_ cf_p_ g o_146)) H_144 := hP
                  have hD : va_D A ([(a_r_, .inl (g 0, n_r_, .inl r_)), (a_q_7, .inl (g 0, n_8, .inl q_9)), (a_q_13, .inl (g 0, n_14, .inl q_15)), (a_q_16, .inl (g 0, n_19, .inl (upd q28_95 v10_94.toNatClampNeg r_133)))] ++ (offS ad_145 tp_p_ hd_p_ tf_p_ cf_p_ g o_146)) := hD
                  refine W.widen (k := (kb60 + 5)) (n := (nb60 + 30)) (by omega) (by omega) ?_
                  refine lv_if_eq (tgt := 111) hx hb dL_areRuns_106 (by decide) (fun c_147 => ?_) (fun c_147 => ?_)
                  · have hw := hw.1 (b2i_0 c_147)
                    obtain ⟨x_148, ex_148⟩ : ∃ y : Int32, y = v10_94 + 1 := ⟨_, rfl⟩
                    have hw := hw x_148 ex_148
                    refine lv_iinc (v := x_148) (lv' := [(10, .int x_148), (0, .ref t_p_), (2, .int tape), (3, .int order), (4, .int way), (5, .int memory), (7, .ref a_q_7), (8, .ref a_q_13), (9, .ref a_q_16), (11, .int v11_20), (12, .int v12_93)]) hx hb dL_areRuns_111 hl (k := 8) rfl (by rw [ex_148]; rfl) (by decide) rfl (fun ls hl => ?_)
                    obtain ⟨x_149, ex_149⟩ : ∃ y : Int32, y = v12_93 + 1 := ⟨_, rfl⟩
                    have hw := hw x_149 ex_149
                    refine lv_iinc (v := x_149) (lv' := [(12, .int x_149), (10, .int x_148), (0, .ref t_p_), (2, .int tape), (3, .int order), (4, .int way), (5, .int memory), (7, .ref a_q_7), (8, .ref a_q_13), (9, .ref a_q_16), (11, .int v11_20)]) hx hb dL_areRuns_114 hl (k := 10) rfl (by rw [ex_149]; rfl) (by decide) rfl (fun ls hl => ?_)
                    refine lv_goto (tgt := 60) hx hb dL_areRuns_117 (by decide) ?_
                    refine W.widen (k := ((kb38 + 210) - n60 * 5)) (n := ((nb38 + 1260) - n60 * 30)) (by omega) (by omega) ?_
                    exact ih60 x_149 x_148 (upd q28_95 v10_94.toNatClampNeg r_133) o_146 ad_145 had_145 _ _ hw hP hD hS _ (lv_sub hl [2, 3, 4, 5, 6, 7, 8, 9, 1, 10, 0] rfl)
                  · have hw := hw.2 (b2i_1 c_147)
                    obtain ⟨hP, hD⟩ := seg_sub (segs := [[(a_r_, .inl (g 0, n_r_, .inl r_))], [(a_q_7, .inl (g 0, n_8, .inl q_9))], [(a_q_13, .inl (g 0, n_14, .inl q_15))], [(a_q_16, .inl (g 0, n_19, .inl (upd q28_95 v10_94.toNatClampNeg r_133)))], offS ad_145 tp_p_ hd_p_ tf_p_ cf_p_ g o_146]) [[(a_r_, .inl (g 0, n_r_, .inl r_))], offS ad_145 tp_p_ hd_p_ tf_p_ cf_p_ g o_146] [[(a_q_7, .inl (g 0, n_8, .inl q_9))], [(a_q_13, .inl (g 0, n_14, .inl q_15))], [(a_q_16, .inl (g 0, n_19, .inl (upd q28_95 v10_94.toNatClampNeg r_133)))]] 5 [0, 4, 1, 2, 3] rfl rfl (by decide) hP hD
                    refine W.widen (k := (kb38 + 210)) (n := (nb38 + 1260)) (by omega) (by omega) ?_
                    exact EX60_109 o_146 ad_145 had_145 _ _ hw hP hD hS _ (lv_sub hl [] rfl)
          obtain ⟨n60, hle60, hw⟩ := hw
          refine W.widen (k := ((kb38 + 210) - n60 * 5)) (n := ((nb38 + 1260) - n60 * 30)) (by omega) (by omega) ?_
          exact LOOP60 n60 hle60 0 v10_22 q28_23 o_21 ad_24 had_24 _ _ hw hP hD hS _ (lv_sub hl [1, 2, 3, 4, 5, 6, 7, 8, 9, 10, 0] rfl)
        · have hw := hw.2 c_92
          obtain ⟨hP, hD⟩ := seg_sub (segs := [[(a_r_, .inl (g 0, n_r_, .inl r_))], [(a_q_7, .inl (g 0, n_8, .inl q_9))], [(a_q_13, .inl (g 0, n_14, .inl q_15))], [(a_q_16, .inl (g 0, n_19, .inl q28_23))], offS ad_24 tp_p_ hd_p_ tf_p_ cf_p_ g o_21]) [[(a_r_, .inl (g 0, n_r_, .inl r_))], offS ad_24 tp_p_ hd_p_ tf_p_ cf_p_ g o_21] [[(a_q_7, .inl (g 0, n_8, .inl q_9))], [(a_q_13, .inl (g 0, n_14, .inl q_15))], [(a_q_16, .inl (g 0, n_19, .inl q28_23))]] 5 [0, 4, 1, 2, 3] rfl rfl (by decide) hP hD
          refine W.widen (k := 9316) (n := 56478) (by omega) (by omega) ?_
          exact EX38_55 o_21 ad_24 had_24 _ _ hw hP hD hS _ (lv_sub hl [] rfl)
  obtain ⟨n38, hle38, hw⟩ := hw
  refine W.widen (k := (9316 - n38 * 212)) (n := (56478 - n38 * 1272)) (by omega) (by omega) ?_
  exact LOOP38 n38 hle38 0 o_12 0 (fun _ => 0) ad_11 had_11 _ _ hw hP hD hS _ (lv_sub hl [6, 8, 9, 10, 11, 4, 3, 2, 1, 0] rfl)
