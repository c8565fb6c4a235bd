theorem dL_law_0 : decode cL_law 0 = .ok (.aload_n 0, 1) := by decide +kernel
theorem dL_law_1 : decode cL_law 1 = .ok (.invokestatic 349, 3) := by decide +kernel
theorem dL_law_4 : decode cL_law 4 = .ok (.astore_n 1, 1) := by decide +kernel
theorem dL_law_5 : decode cL_law 5 = .ok (.new 1, 3) := by decide +kernel
theorem dL_law_8 : decode cL_law 8 = .ok (.dup, 1) := by decide +kernel
theorem dL_law_9 : decode cL_law 9 = .ok (.invokespecial 273, 3) := by decide +kernel
theorem dL_law_12 : decode cL_law 12 = .ok (.astore_n 2, 1) := by decide +kernel
theorem dL_law_13 : decode cL_law 13 = .ok (.iconst 0, 1) := by decide +kernel
theorem dL_law_14 : decode cL_law 14 = .ok (.istore_n 3, 1) := by decide +kernel
theorem dL_law_99 : decode cL_law 99 = .ok (.iconst 0, 1) := by decide +kernel
theorem dL_law_123 : decode cL_law 123 = .ok (.iconst 0, 1) := by decide +kernel
theorem dL_law_174 : decode cL_law 174 = .ok (.iconst 0, 1) := by decide +kernel
theorem dL_law_208 : decode cL_law 208 = .ok (.iconst 0, 1) := by decide +kernel
theorem dL_law_216 : decode cL_law 216 = .ok (.aload_n 1, 1) := by decide +kernel
theorem dL_law_217 : decode cL_law 217 = .ok (.invokestatic 380, 3) := by decide +kernel
theorem dL_law_220 : decode cL_law 220 = .ok (.ifCond .eq 23, 3) := by decide +kernel
theorem dL_law_243 : decode cL_law 243 = .ok (.iconst 0, 1) := by decide +kernel
theorem dL_law_223 : decode cL_law 223 = .ok (.aload_n 2, 1) := by decide +kernel
theorem dL_law_224 : decode cL_law 224 = .ok (.aload_n 1, 1) := by decide +kernel
theorem dL_law_225 : decode cL_law 225 = .ok (.invokestatic 384, 3) := by decide +kernel
theorem dL_law_228 : decode cL_law 228 = .ok (.ifCond .eq 15, 3) := by decide +kernel
theorem dL_law_231 : decode cL_law 231 = .ok (.aload_n 2, 1) := by decide +kernel
theorem dL_law_232 : decode cL_law 232 = .ok (.aload_n 1, 1) := by decide +kernel
theorem dL_law_233 : decode cL_law 233 = .ok (.invokestatic 387, 3) := by decide +kernel
theorem dL_law_236 : decode cL_law 236 = .ok (.ifCond .eq 7, 3) := by decide +kernel
theorem dL_law_239 : decode cL_law 239 = .ok (.iconst 1, 1) := by decide +kernel
theorem dL_law_240 : decode cL_law 240 = .ok (.goto 4, 3) := by decide +kernel
theorem dL_law_244 : decode cL_law 244 = .ok (.ireturn, 1) := by decide +kernel
theorem dL_law_15 : decode cL_law 15 = .ok (.iload_n 3, 1) := by decide +kernel
theorem dL_law_16 : decode cL_law 16 = .ok (.iconst 2, 1) := by decide +kernel
theorem dL_law_17 : decode cL_law 17 = .ok (.if_icmp .ge 199, 3) := by decide +kernel
theorem dL_law_20 : decode cL_law 20 = .ok (.aload_n 1, 1) := by decide +kernel
theorem dL_law_21 : decode cL_law 21 = .ok (.iconst 3, 1) := by decide +kernel
theorem dL_law_22 : decode cL_law 22 = .ok (.invokestatic 103, 3) := by decide +kernel
theorem dL_law_25 : decode cL_law 25 = .ok (.istore 4, 2) := by decide +kernel
theorem dL_law_27 : decode cL_law 27 = .ok (.aload_n 2, 1) := by decide +kernel
theorem dL_law_28 : decode cL_law 28 = .ok (.aload_n 1, 1) := by decide +kernel
theorem dL_law_29 : decode cL_law 29 = .ok (.iload 4, 2) := by decide +kernel
theorem dL_law_31 : decode cL_law 31 = .ok (.invokestatic 352, 3) := by decide +kernel
theorem dL_law_34 : decode cL_law 34 = .ok (.aload_n 1, 1) := by decide +kernel
theorem dL_law_35 : decode cL_law 35 = .ok (.iconst 2, 1) := by decide +kernel
theorem dL_law_36 : decode cL_law 36 = .ok (.invokestatic 103, 3) := by decide +kernel
theorem dL_law_39 : decode cL_law 39 = .ok (.istore 5, 2) := by decide +kernel
theorem dL_law_41 : decode cL_law 41 = .ok (.aload_n 1, 1) := by decide +kernel
theorem dL_law_42 : decode cL_law 42 = .ok (.iconst 3, 1) := by decide +kernel
theorem dL_law_43 : decode cL_law 43 = .ok (.invokestatic 103, 3) := by decide +kernel
theorem dL_law_68 : decode cL_law 68 = .ok (.istore 6, 2) := by decide +kernel
theorem dL_law_70 : decode cL_law 70 = .ok (.aload_n 2, 1) := by decide +kernel
theorem dL_law_71 : decode cL_law 71 = .ok (.aload_n 1, 1) := by decide +kernel
theorem dL_law_72 : decode cL_law 72 = .ok (.iload 4, 2) := by decide +kernel
theorem dL_law_74 : decode cL_law 74 = .ok (.iload 5, 2) := by decide +kernel
theorem dL_law_76 : decode cL_law 76 = .ok (.aload_n 1, 1) := by decide +kernel
theorem dL_law_77 : decode cL_law 77 = .ok (.iconst 3, 1) := by decide +kernel
theorem dL_law_78 : decode cL_law 78 = .ok (.invokestatic 103, 3) := by decide +kernel
theorem dL_law_81 : decode cL_law 81 = .ok (.iload 6, 2) := by decide +kernel
theorem dL_law_83 : decode cL_law 83 = .ok (.invokestatic 356, 3) := by decide +kernel
theorem dL_law_86 : decode cL_law 86 = .ok (.ifCond .eq 13, 3) := by decide +kernel
theorem dL_law_89 : decode cL_law 89 = .ok (.aload_n 2, 1) := by decide +kernel
theorem dL_law_90 : decode cL_law 90 = .ok (.aload_n 1, 1) := by decide +kernel
theorem dL_law_91 : decode cL_law 91 = .ok (.iload 4, 2) := by decide +kernel
theorem dL_law_93 : decode cL_law 93 = .ok (.invokestatic 360, 3) := by decide +kernel
theorem dL_law_96 : decode cL_law 96 = .ok (.ifCond .ne 5, 3) := by decide +kernel
theorem dL_law_101 : decode cL_law 101 = .ok (.aload_n 2, 1) := by decide +kernel
theorem dL_law_102 : decode cL_law 102 = .ok (.aload_n 1, 1) := by decide +kernel
theorem dL_law_103 : decode cL_law 103 = .ok (.iload 4, 2) := by decide +kernel
theorem dL_law_105 : decode cL_law 105 = .ok (.iload_n 3, 1) := by decide +kernel
theorem dL_law_115 : decode cL_law 115 = .ok (.iload 5, 2) := by decide +kernel
theorem dL_law_117 : decode cL_law 117 = .ok (.invokestatic 363, 3) := by decide +kernel
theorem dL_law_120 : decode cL_law 120 = .ok (.ifCond .ne 5, 3) := by decide +kernel
theorem dL_law_125 : decode cL_law 125 = .ok (.aload_n 2, 1) := by decide +kernel
theorem dL_law_126 : decode cL_law 126 = .ok (.aload_n 1, 1) := by decide +kernel
theorem dL_law_127 : decode cL_law 127 = .ok (.iconst 4, 1) := by decide +kernel
theorem dL_law_128 : decode cL_law 128 = .ok (.invokestatic 352, 3) := by decide +kernel
theorem dL_law_131 : decode cL_law 131 = .ok (.aload_n 2, 1) := by decide +kernel
theorem dL_law_132 : decode cL_law 132 = .ok (.aload_n 1, 1) := by decide +kernel
theorem dL_law_133 : decode cL_law 133 = .ok (.iconst 4, 1) := by decide +kernel
theorem dL_law_134 : decode cL_law 134 = .ok (.iconst 5, 1) := by decide +kernel
theorem dL_law_135 : decode cL_law 135 = .ok (.aload_n 1, 1) := by decide +kernel
theorem dL_law_136 : decode cL_law 136 = .ok (.iconst 3, 1) := by decide +kernel
theorem dL_law_137 : decode cL_law 137 = .ok (.invokestatic 103, 3) := by decide +kernel
theorem dL_law_148 : decode cL_law 148 = .ok (.invokestatic 367, 3) := by decide +kernel
theorem dL_law_151 : decode cL_law 151 = .ok (.ifCond .eq 23, 3) := by decide +kernel
theorem dL_law_154 : decode cL_law 154 = .ok (.aload_n 2, 1) := by decide +kernel
theorem dL_law_155 : decode cL_law 155 = .ok (.aload_n 1, 1) := by decide +kernel
theorem dL_law_156 : decode cL_law 156 = .ok (.iconst 3, 1) := by decide +kernel
theorem dL_law_157 : decode cL_law 157 = .ok (.iconst 5, 1) := by decide +kernel
theorem dL_law_158 : decode cL_law 158 = .ok (.invokestatic 370, 3) := by decide +kernel
theorem dL_law_161 : decode cL_law 161 = .ok (.ifCond .eq 13, 3) := by decide +kernel
theorem dL_law_164 : decode cL_law 164 = .ok (.aload_n 2, 1) := by decide +kernel
theorem dL_law_165 : decode cL_law 165 = .ok (.aload_n 1, 1) := by decide +kernel
theorem dL_law_166 : decode cL_law 166 = .ok (.iconst 5, 1) := by decide +kernel
theorem dL_law_167 : decode cL_law 167 = .ok (.iconst 5, 1) := by decide +kernel
theorem dL_law_168 : decode cL_law 168 = .ok (.invokestatic 370, 3) := by decide +kernel
theorem dL_law_171 : decode cL_law 171 = .ok (.ifCond .ne 5, 3) := by decide +kernel
theorem dL_law_176 : decode cL_law 176 = .ok (.aload_n 2, 1) := by decide +kernel
theorem dL_law_177 : decode cL_law 177 = .ok (.aload_n 1, 1) := by decide +kernel
theorem dL_law_178 : decode cL_law 178 = .ok (.iconst 5, 1) := by decide +kernel
theorem dL_law_179 : decode cL_law 179 = .ok (.invokestatic 374, 3) := by decide +kernel
theorem dL_law_182 : decode cL_law 182 = .ok (.ifCond .eq 26, 3) := by decide +kernel
theorem dL_law_185 : decode cL_law 185 = .ok (.aload_n 2, 1) := by decide +kernel
theorem dL_law_186 : decode cL_law 186 = .ok (.aload_n 1, 1) := by decide +kernel
theorem dL_law_187 : decode cL_law 187 = .ok (.iconst 3, 1) := by decide +kernel
theorem dL_law_188 : decode cL_law 188 = .ok (.invokestatic 374, 3) := by decide +kernel
theorem dL_law_191 : decode cL_law 191 = .ok (.ifCond .eq 17, 3) := by decide +kernel
theorem dL_law_194 : decode cL_law 194 = .ok (.aload_n 2, 1) := by decide +kernel
theorem dL_law_195 : decode cL_law 195 = .ok (.aload_n 1, 1) := by decide +kernel
theorem dL_law_196 : decode cL_law 196 = .ok (.aload_n 1, 1) := by decide +kernel
theorem dL_law_197 : decode cL_law 197 = .ok (.bipush 6, 2) := by decide +kernel
theorem dL_law_199 : decode cL_law 199 = .ok (.invokestatic 103, 3) := by decide +kernel
theorem dL_law_202 : decode cL_law 202 = .ok (.invokestatic 377, 3) := by decide +kernel
theorem dL_law_205 : decode cL_law 205 = .ok (.ifCond .ne 5, 3) := by decide +kernel
theorem dL_law_210 : decode cL_law 210 = .ok (.iinc 3 1, 3) := by decide +kernel
theorem dL_law_213 : decode cL_law 213 = .ok (.goto (-198), 3) := by decide +kernel
theorem dL_law_140 : decode cL_law 140 = .ok (.ifCond .ne 7, 3) := by decide +kernel
theorem dL_law_147 : decode cL_law 147 = .ok (.iconst 0, 1) := by decide +kernel
theorem dL_law_143 : decode cL_law 143 = .ok (.iconst 1, 1) := by decide +kernel
theorem dL_law_144 : decode cL_law 144 = .ok (.goto 4, 3) := by decide +kernel
theorem dL_law_106 : decode cL_law 106 = .ok (.ifCond .ne 7, 3) := by decide +kernel
theorem dL_law_113 : decode cL_law 113 = .ok (.iload 4, 2) := by decide +kernel
theorem dL_law_109 : decode cL_law 109 = .ok (.iconst 3, 1) := by decide +kernel
theorem dL_law_110 : decode cL_law 110 = .ok (.goto 5, 3) := by decide +kernel
theorem dL_law_46 : decode cL_law 46 = .ok (.ifCond .ne 14, 3) := by decide +kernel
theorem dL_law_60 : decode cL_law 60 = .ok (.iconst 1, 1) := by decide +kernel
theorem dL_law_61 : decode cL_law 61 = .ok (.aload_n 1, 1) := by decide +kernel
theorem dL_law_62 : decode cL_law 62 = .ok (.bipush 6, 2) := by decide +kernel
theorem dL_law_64 : decode cL_law 64 = .ok (.invokestatic 103, 3) := by decide +kernel
theorem dL_law_67 : decode cL_law 67 = .ok (.iadd, 1) := by decide +kernel
theorem dL_law_49 : decode cL_law 49 = .ok (.iconst 1, 1) := by decide +kernel
theorem dL_law_50 : decode cL_law 50 = .ok (.aload_n 1, 1) := by decide +kernel
theorem dL_law_51 : decode cL_law 51 = .ok (.bipush 50, 2) := by decide +kernel
theorem dL_law_53 : decode cL_law 53 = .ok (.invokestatic 103, 3) := by decide +kernel
theorem dL_law_56 : decode cL_law 56 = .ok (.iadd, 1) := by decide +kernel
theorem dL_law_57 : decode cL_law 57 = .ok (.goto 11, 3) := by decide +kernel
theorem law_fin (l : Launch) {p : Program} {e : Env} {s : State} {m : MethodId} {below : List Frame} {meth : Method} {c : Code} {QS : State → Prop} {A : Nat → Prop} {a_s_ k n pc : Nat} {H : Heap} {locs : List Loc} {ls : Array Slot} (hAn : ∀ q, A q → s.heap.size ≤ q) (hret : ∀ (H : Heap) (ls : Array Slot) (pc : Nat), decode cL_law pc = .ok (.ireturn, 1) → W p l e room_1 s m ([.ref a_s_] : List Value).toArray below meth c H [] 600104 7301314 QS (F0 m pc ls [.int 1])) (hS : va_S A s.heap H locs) (hdg : decode cL_law pc = .ok (.ireturn, 1)) (hk : k ≤ 600104) (hn : n ≤ 7301314) : W p l e room_1 s m ([.ref a_s_] : List Value).toArray below meth c H locs k n QS (F0 m pc ls [.int 1]) := by
  refine W.widen (k := 600104) (n := 7301314) hk hn ?_
  refine va_forget (fun q hq => hAn _ (hS.2.2 q hq)) ?_
  exact hret _ _ _ hdg
set_option maxHeartbeats 8000000 in
set_option maxRecDepth 100000 in
theorem law_body (l : Launch) (hlf : l.stackTraces = false) {p : Program} {e : Env} {s : State} {m : MethodId} {below : List Frame} {meth : Method} {c : Code} {QS : State → Prop} {A : Nat → Prop} (dC : Nat → ClassId) (dI : Nat → Nat → Nat) (g : Nat → ClassId) (a_s_ s__n : Nat) (s__f : Nat → Int32) (Q : Bool → Prop) (hQ9 : ∀ b, Q b → b = true) (hw : wp_L_law s__n s__f Q) (hx : p.tables.exec = Jvm.exec) (hb : c.code = cL_law) (hml : c.maxLocals = 7) (hown : s.vm.findClass RL = some m.cls) (hts : ∀ w ∈ wqL_law, w.before ([.ref a_s_] : List Value).toArray s = true) (hT : GIb s__n s__f a_s_ A s) (hK : va_K (dC, dI) vwCl (tyL g) s) (hG : GB g A s) (hA : ∀ q, s.heap.size ≤ q → A q) (hAn : ∀ q, A q → s.heap.size ≤ q) (hret : ∀ (H : Heap) (ls : Array Slot) (pc : Nat), decode cL_law pc = .ok (.ireturn, 1) → W p l e room_1 s m ([.ref a_s_] : List Value).toArray below meth c H [] 600104 7301314 QS (F0 m pc ls [.int 1])) : W p l e room_1 s m ([.ref a_s_] : List Value).toArray below meth c s.heap [] 0 0 QS (entryFrame m ([.ref a_s_] : List Value).toArray 7) := by
  have hS : va_S A s.heap s.heap [] := va_S.rf
  have hP : va_P (dC, dI) vwCl [] s.heap := fun k q h => by simp at h
  have hD : va_D A [] := ⟨fun i j p q h => by simp at h, fun k q h => by simp at h⟩
  have hrc : room_1.cells = 600104 := rfl
  have hrs : room_1.slots = 7301314 := rfl
  have hl := lv_entry ([.ref a_s_]) (n := 7) (Nat.le_of_ble_eq_true rfl)
  rw [lg_entry_eq]
  generalize (lg_sl ([.ref a_s_]) ++ List.replicate (7 - (lg_sl ([.ref a_s_])).length) Slot.unset).toArray = ls at hl ⊢
  have hl : lv_has ls 7 [(0, .ref a_s_)] := hl
  unfold wp_L_law at hw
  have hcl1 := hts (Cond.classLink RL 1 RX11) (aw_l aw_1_32)
  have hinX11 := hts (Cond.instantiable RX11 13) (aw_l aw_1_33)
  have hiniX11 := hts (Cond.initialized RX11) (aw_l aw_1_1)
  have hiX11 : ∀ w ∈ u_ws RX11 TX11 13, w ∈ wqL_law := fun w h => aw_l (aw_wsX110 w h)
  have himX11_init := hts (Cond.instanceMethod yX11_init) (aw_l aw_1_35)
  have hml273 := hts (Cond.methodLink RL 273 yX11_init) (aw_l aw_1_34)
  refine lv_aload_n hx hb dL_law_0 rfl (lv_at hl 0 rfl) ?_
  have hPs : va_P (dC, dI) vwCl (wcat [] ++ wcat []) s.heap := by rw [show wcat [] = [] from rfl, List.append_nil]; exact hP
  have hDs : va_D A (wcat [] ++ wcat []) := by rw [show wcat [] = [] from rfl, List.append_nil]; exact hD
  have hPc : va_P (dC, dI) vwCl [] s.heap := P_r hPs
  have hDc : va_D A [] := D_r hDs
  have hFc : ∀ q, va_A [] s.heap.size q → A q := A_all hDc hA hS.1
  refine va_callq (va_runS (As := [.ref a_s_]) (rest := []) ⟨hx, hb, hml, hown, hts⟩ (c_L_seed_x l hlf dC dI g (a_s_ := a_s_) (s__n := s__n) (s__f := s__f) (hw := hw) (sz := s.heap.size)) (va_cwS 1 hts (gqS aw_2_209 aw_2_210 aw_1_0 aw_2_211) rfl rfl rfl (by decide +kernel) ⟨Nat.le_of_ble_eq_true rfl, Nat.le_of_ble_eq_true rfl⟩) ⟨PX_blind (GIb_go s__n s__f a_s_), PX_call (GIb_go s__n s__f a_s_) hK hG hS hPc hDc hFc hT⟩ rfl rfl hl.1 rfl (lv_room (Nat.le_of_ble_eq_true rfl)) dL_law_1 ⟨by rw [hrc]; omega, by rw [hrs]; omega⟩) hS (fun q _ h => hFc q h) hFc (fun r_2 u_2 t_2 H_2 L_2 ht_2 hvm_2 hw_2 hB_2 hz_2 hk_2 hS => ?_)
  obtain ⟨a_q_3, n_4, f_5, u_2⟩ := u_2
  obtain ⟨rfl, hw⟩ := hw_2
  rw [ht_2] at hB_2
  obtain ⟨hP1, hD1⟩ := hB_2
  obtain ⟨hP, hD⟩ := join_r hPs hDs hk_2 hFc hP1 hD1
  obtain ⟨hP, hD⟩ := seg_join [] [[(a_q_3, .inl (g 0, n_4, .inl f_5))]] [[(a_q_3, .inl (g 0, n_4, .inl f_5))]] 1 [0] rfl rfl (by decide) hP hD
  have hP : va_P (dC, dI) vwCl [(a_q_3, .inl (g 0, n_4, .inl f_5))] H_2 := hP
  have hD : va_D A [(a_q_3, .inl (g 0, n_4, .inl f_5))] := hD
  refine W.widen (k := 1) (n := 2) (by omega) (by omega) ?_
  refine lv_astore_n (lv' := [(1, .ref a_q_3), (0, .ref a_s_)]) hx hb dL_law_4 rfl hl (by decide) rfl (fun ls hl => ?_)
  refine va_new (ci := 13) (fs := [.null, .null, .null, .null, .null, .null, .null, .null, .null, .null, .null, .null, .int 0]) (C := RX11) (T := TX11) (N := 13) hx hb hts hiX11 tyX11 tyX11_ok hown hcl1 hinX11 hiniX11 hK hP hD hS hA rfl (fun j hj => by rcases (show j = 0 ∨ j = 1 ∨ j = 2 ∨ j = 3 ∨ j = 4 ∨ j = 5 ∨ j = 6 ∨ j = 7 ∨ j = 8 ∨ j = 9 ∨ j = 10 ∨ j = 11 ∨ j = 12 by omega) with rfl | rfl | rfl | rfl | rfl | rfl | rfl | rfl | rfl | rfl | rfl | rfl | rfl <;> rfl) (by rw [hrc]; omega) (by rw [hrs]; omega) dL_law_5 (fun t_o5 H_7 hP hD hS => ?_)
  obtain ⟨hP, hD⟩ := seg_join [[(a_q_3, .inl (g 0, n_4, .inl f_5))]] [[(t_o5, .inr (13, [.null, .null, .null, .null, .null, .null, .null, .null, .null, .null, .null, .null, .int 0]))]] [[(a_q_3, .inl (g 0, n_4, .inl f_5))], [(t_o5, .inr (13, [.null, .null, .null, .null, .null, .null, .null, .null, .null, .null, .null, .null, .int 0]))]] 2 [0, 1] rfl rfl (by decide) hP hD
  have hP : va_P (dC, dI) vwCl [(a_q_3, .inl (g 0, n_4, .inl f_5)), (t_o5, .inr (13, [.null, .null, .null, .null, .null, .null, .null, .null, .null, .null, .null, .null, .int 0]))] H_7 := hP
  have hD : va_D A [(a_q_3, .inl (g 0, n_4, .inl f_5)), (t_o5, .inr (13, [.null, .null, .null, .null, .null, .null, .null, .null, .null, .null, .null, .null, .int 0]))] := hD
  refine W.widen (k := 2) (n := 15) (by omega) (by omega) ?_
  refine lv_dup hx hb dL_law_8 rfl ?_
  obtain ⟨hPs, hDs⟩ := seg_call (segs := [[(a_q_3, .inl (g 0, n_4, .inl f_5))], [(t_o5, .inr (13, [.null, .null, .null, .null, .null, .null, .null, .null, .null, .null, .null, .null, .int 0]))]]) [[(a_q_3, .inl (g 0, n_4, .inl f_5))]] [[(t_o5, .inr (13, [.null, .null, .null, .null, .null, .null, .null, .null, .null, .null, .null, .null, .int 0]))]] 2 [0, 1] rfl rfl (by decide) hP hD
  have hPc : va_P (dC, dI) vwCl [(t_o5, .inr (13, [.null, .null, .null, .null, .null, .null, .null, .null, .null, .null, .null, .null, .int 0]))] H_7 := P_r hPs
  have hDc : va_D A [(t_o5, .inr (13, [.null, .null, .null, .null, .null, .null, .null, .null, .null, .null, .null, .null, .int 0]))] := D_r hDs
  have hFc : ∀ q, va_A [(t_o5, .inr (13, [.null, .null, .null, .null, .null, .null, .null, .null, .null, .null, .null, .null, .int 0]))] H_7.size q → A q := A_all hDc hA hS.1
  refine va_callv (va_runI (As := []) (rest := [.ref t_o5]) ⟨hx, hb, hml, hown, hts⟩ (c_X11_init l dC dI g (a_this_ := t_o5) (hw := hw) (sz := H_7.size)) (cwI 0 hts (gq0 aw_1_36) rfl rfl rfl hiniX11 hml273 himX11_init rfl (by decide +kernel) ⟨Nat.le_of_ble_eq_true rfl, Nat.le_of_ble_eq_true rfl⟩) ⟨PG_blind, PG_call hK hG hS hPc hDc hFc⟩ rfl rfl hl.1 rfl (lv_room (Nat.le_of_ble_eq_true rfl)) dL_law_9 ⟨by rw [hrc]; omega, by rw [hrs]; omega⟩) hS (fun q _ h => hFc q h) hFc (fun u_9 t_9 H_9 L_9 ht_9 hvm_9 hw_9 hB_9 hz_9 hk_9 hS => ?_)
  obtain ⟨ad_10, tp_o5, hd_o5, tf_o5, cf_o5, u_9⟩ := u_9
  obtain ⟨hw, had_10, htf_o5, hcf_o5⟩ := hw_9
  rw [ht_9] at hB_9
  obtain ⟨hP1, hD1⟩ := hB_9
  obtain ⟨hP, hD⟩ := join_r hPs hDs hk_9 hFc hP1 hD1
  obtain ⟨hP, hD⟩ := seg_join [[(a_q_3, .inl (g 0, n_4, .inl f_5))]] [offS ad_10 tp_o5 hd_o5 tf_o5 cf_o5 g of_0] [[(a_q_3, .inl (g 0, n_4, .inl f_5))], offS ad_10 tp_o5 hd_o5 tf_o5 cf_o5 g of_0] 2 [0, 1] rfl rfl (by decide) hP hD
  have hP : va_P (dC, dI) vwCl ([(a_q_3, .inl (g 0, n_4, .inl f_5))] ++ (offS ad_10 tp_o5 hd_o5 tf_o5 cf_o5 g of_0)) H_9 := hP
  have hD : va_D A ([(a_q_3, .inl (g 0, n_4, .inl f_5))] ++ (offS ad_10 tp_o5 hd_o5 tf_o5 cf_o5 g of_0)) := hD
  refine W.widen (k := 141) (n := 10698) (by omega) (by omega) ?_
  refine lv_astore_n (lv' := [(2, .ref t_o5), (1, .ref a_q_3), (0, .ref a_s_)]) hx hb dL_law_12 rfl hl (by decide) rfl (fun ls hl => ?_)
  refine lv_iconst (v := 0) hx hb dL_law_13 (by decide) ?_
  refine lv_istore_n (lv' := [(3, .int 0), (2, .ref t_o5), (1, .ref a_q_3), (0, .ref a_s_)]) hx hb dL_law_14 rfl hl (by decide) rfl (fun ls hl => ?_)
  refine W_abs (fun QM hQM => ?_)
  have EX15_99 : ∀ (o_15 : OS) (ad_16 : Nat → Nat) (had_16 : ad_16 0 = t_o5) (H : Heap) (locs : List Loc), (wx_L_law_15_99 Q) o_15 → va_P (dC, dI) vwCl (offS ad_16 tp_o5 hd_o5 tf_o5 cf_o5 g o_15) H → va_D A (offS ad_16 tp_o5 hd_o5 tf_o5 cf_o5 g o_15) → va_S A s.heap H locs → ∀ (ls : Array Slot), lv_has ls 7 [] → W p l e room_1 s m ([.ref a_s_] : List Value).toArray below meth c H locs 455268 2790712 QM (F0 m 99 ls []) := by
    intro o_15 ad_16 had_16 H locs hw hP hD hS ls hl
    refine lv_iconst (v := 0) hx hb dL_law_99 (by decide) ?_
    subst hQM
    exact absurd (hQ9 _ hw) (by decide)
  have EX15_123 : ∀ (o_17 : OS) (ad_18 : Nat → Nat) (had_18 : ad_18 0 = t_o5) (H : Heap) (locs : List Loc), (wx_L_law_15_123 Q) o_17 → va_P (dC, dI) vwCl (offS ad_18 tp_o5 hd_o5 tf_o5 cf_o5 g o_17) H → va_D A (offS ad_18 tp_o5 hd_o5 tf_o5 cf_o5 g o_17) → va_S A s.heap H locs → ∀ (ls : Array Slot), lv_has ls 7 [] → W p l e room_1 s m ([.ref a_s_] : List Value).toArray below meth c H locs 466867 2860888 QM (F0 m 123 ls []) := by
    intro o_17 ad_18 had_18 H locs hw hP hD hS ls hl
    refine lv_iconst (v := 0) hx hb dL_law_123 (by decide) ?_
    subst hQM
    exact absurd (hQ9 _ hw) (by decide)
  have EX15_174 : ∀ (o_19 : OS) (ad_20 : Nat → Nat) (had_20 : ad_20 0 = t_o5) (H : Heap) (locs : List Loc), (wx_L_law_15_174 Q) o_19 → va_P (dC, dI) vwCl (offS ad_20 tp_o5 hd_o5 tf_o5 cf_o5 g o_19) H → va_D A (offS ad_20 tp_o5 hd_o5 tf_o5 cf_o5 g o_19) → va_S A s.heap H locs → ∀ (ls : Array Slot), lv_has ls 7 [] → W p l e room_1 s m ([.ref a_s_] : List Value).toArray below meth c H locs 655504 3996396 QM (F0 m 174 ls []) := by
    intro o_19 ad_20 had_20 H locs hw hP hD hS ls hl
    refine lv_iconst (v := 0) hx hb dL_law_174 (by decide) ?_
    subst hQM
    exact absurd (hQ9 _ hw) (by decide)
  have EX15_208 : ∀ (o_21 : OS) (ad_22 : Nat → Nat) (had_22 : ad_22 0 = t_o5) (H : Heap) (locs : List Loc), (wx_L_law_15_208 Q) o_21 → va_P (dC, dI) vwCl (offS ad_22 tp_o5 hd_o5 tf_o5 cf_o5 g o_21) H → va_D A (offS ad_22 tp_o5 hd_o5 tf_o5 cf_o5 g o_21) → va_S A s.heap H locs → ∀ (ls : Array Slot), lv_has ls 7 [] → W p l e room_1 s m ([.ref a_s_] : List Value).toArray below meth c H locs 656754 4004478 QM (F0 m 208 ls []) := by
    intro o_21 ad_22 had_22 H locs hw hP hD hS ls hl
    refine lv_iconst (v := 0) hx hb dL_law_208 (by decide) ?_
    subst hQM
    exact absurd (hQ9 _ hw) (by decide)
  have EX15_216 : ∀ (q1_23 : Nat → Int32) (o_24 : OS) (ad_25 : Nat → Nat) (had_25 : ad_25 0 = t_o5) (H : Heap) (locs : List Loc), (wx_L_law_15_216 Q n_4) q1_23 o_24 → va_P (dC, dI) vwCl ([(a_q_3, .inl (g 0, n_4, .inl q1_23))] ++ (offS ad_25 tp_o5 hd_o5 tf_o5 cf_o5 g o_24)) H → va_D A ([(a_q_3, .inl (g 0, n_4, .inl q1_23))] ++ (offS ad_25 tp_o5 hd_o5 tf_o5 cf_o5 g o_24)) → va_S A s.heap H locs → ∀ (ls : Array Slot), lv_has ls 7 [(1, .ref a_q_3), (2, .ref t_o5)] → W p l e room_1 s m ([.ref a_s_] : List Value).toArray below meth c H locs 437883 2673218 QM (F0 m 216 ls []) := by
    intro q1_23 o_24 ad_25 had_25 H locs hw hP hD hS ls hl
    refine lv_aload_n hx hb dL_law_216 rfl (lv_at hl 0 rfl) ?_
    obtain ⟨hPs, hDs⟩ := seg_call (segs := [[(a_q_3, .inl (g 0, n_4, .inl q1_23))], offS ad_25 tp_o5 hd_o5 tf_o5 cf_o5 g o_24]) [offS ad_25 tp_o5 hd_o5 tf_o5 cf_o5 g o_24] [[(a_q_3, .inl (g 0, n_4, .inl q1_23))]] 2 [1, 0] rfl rfl (by decide) hP hD
    have hPc : va_P (dC, dI) vwCl [(a_q_3, .inl (g 0, n_4, .inl q1_23))] H := P_r hPs
    have hDc : va_D A [(a_q_3, .inl (g 0, n_4, .inl q1_23))] := D_r hDs
    have hFc : ∀ q, va_A [(a_q_3, .inl (g 0, n_4, .inl q1_23))] H.size q → A q := A_all hDc hA hS.1
    refine va_calli (va_runS (As := [.ref a_q_3]) (rest := []) ⟨hx, hb, hml, hown, hts⟩ (c_L_isProgram l hlf dC dI g (a_r_ := a_q_3) (n_r_ := n_4) (r_ := q1_23) (hw := hw) (sz := H.size)) (va_cwS 1 hts (gqS aw_6_104 aw_6_105 aw_1_0 aw_6_106) rfl rfl rfl (by decide +kernel) ⟨Nat.le_of_ble_eq_true rfl, Nat.le_of_ble_eq_true rfl⟩) ⟨PG_blind, PG_call hK hG hS hPc hDc hFc⟩ rfl rfl hl.1 rfl (lv_room (Nat.le_of_ble_eq_true rfl)) dL_law_217 ⟨by rw [hrc]; omega, by rw [hrs]; omega⟩) hS (fun q _ h => hFc q h) hFc (fun r_26 u_26 t_26 H_26 L_26 ht_26 hvm_26 hw_26 hB_26 hz_26 hk_26 hS => ?_)
    obtain ⟨q1_27, u_26⟩ := u_26
    obtain ⟨b_26, rfl, hw⟩ := hw_26
    rw [ht_26] at hB_26
    obtain ⟨hP1, hD1⟩ := hB_26
    obtain ⟨hP, hD⟩ := join_r hPs hDs hk_26 hFc hP1 hD1
    obtain ⟨hP, hD⟩ := seg_join [offS ad_25 tp_o5 hd_o5 tf_o5 cf_o5 g o_24] [[(a_q_3, .inl (g 0, n_4, .inl q1_27))]] [[(a_q_3, .inl (g 0, n_4, .inl q1_27))], offS ad_25 tp_o5 hd_o5 tf_o5 cf_o5 g o_24] 2 [1, 0] rfl rfl (by decide) hP hD
    have hP : va_P (dC, dI) vwCl ([(a_q_3, .inl (g 0, n_4, .inl q1_27))] ++ (offS ad_25 tp_o5 hd_o5 tf_o5 cf_o5 g o_24)) H_26 := hP
    have hD : va_D A ([(a_q_3, .inl (g 0, n_4, .inl q1_27))] ++ (offS ad_25 tp_o5 hd_o5 tf_o5 cf_o5 g o_24)) := hD
    refine W.widen (k := 444903) (n := 2971555) (by omega) (by omega) ?_
    refine lv_if_eq (tgt := 243) hx hb dL_law_220 (by decide) (fun c_28 => ?_) (fun c_28 => ?_)
    · have hw := hw.1 (b2i_0 c_28)
      refine lv_iconst (v := 0) hx hb dL_law_243 (by decide) ?_
      subst hQM
      exact absurd (hQ9 _ hw) (by decide)
    · have hw := hw.2 (b2i_1 c_28)
      refine lv_aload_n hx hb dL_law_223 rfl (lv_at hl 1 rfl) ?_
      refine lv_aload_n hx hb dL_law_224 rfl (lv_at hl 0 rfl) ?_
      obtain ⟨hPs, hDs⟩ := seg_call (segs := [[(a_q_3, .inl (g 0, n_4, .inl q1_27))], offS ad_25 tp_o5 hd_o5 tf_o5 cf_o5 g o_24]) [] [[(a_q_3, .inl (g 0, n_4, .inl q1_27))], offS ad_25 tp_o5 hd_o5 tf_o5 cf_o5 g o_24] 2 [0, 1] rfl rfl (by decide) hP hD
      have hPc : va_P (dC, dI) vwCl ([(a_q_3, .inl (g 0, n_4, .inl q1_27))] ++ (offS ad_25 tp_o5 hd_o5 tf_o5 cf_o5 g o_24)) H_26 := P_r hPs
      have hDc : va_D A ([(a_q_3, .inl (g 0, n_4, .inl q1_27))] ++ (offS ad_25 tp_o5 hd_o5 tf_o5 cf_o5 g o_24)) := D_r hDs
      have hFc : ∀ q, va_A ([(a_q_3, .inl (g 0, n_4, .inl q1_27))] ++ (offS ad_25 tp_o5 hd_o5 tf_o5 cf_o5 g o_24)) H_26.size q → A q := A_all hDc hA hS.1
      refine va_calli (va_runS (As := [.ref t_o5, .ref a_q_3]) (rest := []) ⟨hx, hb, hml, hown, hts⟩ (c_L_isWrong l hlf dC dI g (tp_p_ := tp_o5) (hd_p_ := hd_o5) (tf_p_ := tf_o5) (cf_p_ := cf_o5) (htf_p_ := htf_o5) (hcf_p_ := hcf_o5) (a_p_ := ad_25) (t_p_ := t_o5) (h_p_ := had_25) (o_p_ := o_24) (a_r_ := a_q_3) (n_r_ := n_4) (r_ := q1_27) (hw := hw) (sz := H_26.size)) (va_cwS 2 hts (gqS aw_7_184 aw_7_185 aw_1_0 aw_7_186) rfl rfl rfl (by decide +kernel) ⟨Nat.le_of_ble_eq_true rfl, Nat.le_of_ble_eq_true rfl⟩) ⟨PG_blind, PG_call hK hG hS hPc hDc hFc⟩ rfl rfl hl.1 rfl (lv_room (Nat.le_of_ble_eq_true rfl)) dL_law_225 ⟨by rw [hrc]; omega, by rw [hrs]; omega⟩) hS (fun q _ h => hFc q h) hFc (fun r_29 u_29 t_29 H_29 L_29 ht_29 hvm_29 hw_29 hB_29 hz_29 hk_29 hS => ?_)
      obtain ⟨q1_30, ad_31, o_32, u_29⟩ := u_29
      obtain ⟨b_29, rfl, ⟨hw, had_31⟩⟩ := hw_29
      rw [ht_29] at hB_29
      obtain ⟨hP1, hD1⟩ := hB_29
      obtain ⟨hP, hD⟩ := join_r hPs hDs hk_29 hFc hP1 hD1
      obtain ⟨hP, hD⟩ := seg_join [] [[(a_q_3, .inl (g 0, n_4, .inl q1_30))], offS ad_31 tp_o5 hd_o5 tf_o5 cf_o5 g o_32] [[(a_q_3, .inl (g 0, n_4, .inl q1_30))], offS ad_31 tp_o5 hd_o5 tf_o5 cf_o5 g o_32] 2 [0, 1] rfl rfl (by decide) hP hD
      have hP : va_P (dC, dI) vwCl ([(a_q_3, .inl (g 0, n_4, .inl q1_30))] ++ (offS ad_31 tp_o5 hd_o5 tf_o5 cf_o5 g o_32)) H_29 := hP
      have hD : va_D A ([(a_q_3, .inl (g 0, n_4, .inl q1_30))] ++ (offS ad_31 tp_o5 hd_o5 tf_o5 cf_o5 g o_32)) := hD
      refine W.widen (k := 445084) (n := 2980633) (by omega) (by omega) ?_
      refine lv_if_eq (tgt := 243) hx hb dL_law_228 (by decide) (fun c_33 => ?_) (fun c_33 => ?_)
      · have hw := hw.1 (b2i_0 c_33)
        refine lv_iconst (v := 0) hx hb dL_law_243 (by decide) ?_
        subst hQM
        exact absurd (hQ9 _ hw) (by decide)
      · have hw := hw.2 (b2i_1 c_33)
        refine lv_aload_n hx hb dL_law_231 rfl (lv_at hl 1 rfl) ?_
        refine lv_aload_n hx hb dL_law_232 rfl (lv_at hl 0 rfl) ?_
        obtain ⟨hPs, hDs⟩ := seg_call (segs := [[(a_q_3, .inl (g 0, n_4, .inl q1_30))], offS ad_31 tp_o5 hd_o5 tf_o5 cf_o5 g o_32]) [] [[(a_q_3, .inl (g 0, n_4, .inl q1_30))], offS ad_31 tp_o5 hd_o5 tf_o5 cf_o5 g o_32] 2 [0, 1] rfl rfl (by decide) hP hD
        have hPc : va_P (dC, dI) vwCl ([(a_q_3, .inl (g 0, n_4, .inl q1_30))] ++ (offS ad_31 tp_o5 hd_o5 tf_o5 cf_o5 g o_32)) H_29 := P_r hPs
        have hDc : va_D A ([(a_q_3, .inl (g 0, n_4, .inl q1_30))] ++ (offS ad_31 tp_o5 hd_o5 tf_o5 cf_o5 g o_32)) := D_r hDs
        have hFc : ∀ q, va_A ([(a_q_3, .inl (g 0, n_4, .inl q1_30))] ++ (offS ad_31 tp_o5 hd_o5 tf_o5 cf_o5 g o_32)) H_29.size q → A q := A_all hDc hA hS.1
        refine va_calli (va_runS (As := [.ref t_o5, .ref a_q_3]) (rest := []) ⟨hx, hb, hml, hown, hts⟩ (c_L_areRefused l hlf dC dI g (tp_p_ := tp_o5) (hd_p_ := hd_o5) (tf_p_ := tf_o5) (cf_p_ := cf_o5) (htf_p_ := htf_o5) (hcf_p_ := hcf_o5) (a_p_ := ad_31) (t_p_ := t_o5) (h_p_ := had_31) (o_p_ := o_32) (a_r_ := a_q_3) (n_r_ := n_4) (r_ := q1_30) (hw := hw) (sz := H_29.size)) (va_cwS 2 hts (gqS aw_7_208 aw_7_209 aw_1_0 aw_7_210) rfl rfl rfl (by decide +kernel) ⟨Nat.le_of_ble_eq_true rfl, Nat.le_of_ble_eq_true rfl⟩) ⟨PG_blind, PG_call hK hG hS hPc hDc hFc⟩ rfl rfl hl.1 rfl (lv_room (Nat.le_of_ble_eq_true rfl)) dL_law_233 ⟨by rw [hrc]; omega, by rw [hrs]; omega⟩) hS (fun q _ h => hFc q h) hFc (fun r_34 u_34 t_34 H_34 L_34 ht_34 hvm_34 hw_34 hB_34 hz_34 hk_34 hS => ?_)
        obtain ⟨q1_35, ad_36, o_37, u_34⟩ := u_34
        obtain ⟨b_34, rfl, ⟨hw, had_36⟩⟩ := hw_34
        rw [ht_34] at hB_34
        obtain ⟨hP1, hD1⟩ := hB_34
        obtain ⟨hP, hD⟩ := join_r hPs hDs hk_34 hFc hP1 hD1
        obtain ⟨hP, hD⟩ := seg_join [] [[(a_q_3, .inl (g 0, n_4, .inl q1_35))], offS ad_36 tp_o5 hd_o5 tf_o5 cf_o5 g o_37] [[(a_q_3, .inl (g 0, n_4, .inl q1_35))], offS ad_36 tp_o5 hd_o5 tf_o5 cf_o5 g o_37] 2 [0, 1] rfl rfl (by decide) hP hD
        have hP : va_P (dC, dI) vwCl ([(a_q_3, .inl (g 0, n_4, .inl q1_35))] ++ (offS ad_36 tp_o5 hd_o5 tf_o5 cf_o5 g o_37)) H_34 := hP
        have hD : va_D A ([(a_q_3, .inl (g 0, n_4, .inl q1_35))] ++ (offS ad_36 tp_o5 hd_o5 tf_o5 cf_o5 g o_37)) := hD
        refine W.widen (k := 445675) (n := 2984179) (by omega) (by omega) ?_
        refine lv_if_eq (tgt := 243) hx hb dL_law_236 (by decide) (fun c_38 => ?_) (fun c_38 => ?_)
        · have hw := hw.1 (b2i_0 c_38)
          refine lv_iconst (v := 0) hx hb dL_law_243 (by decide) ?_
          subst hQM
          exact absurd (hQ9 _ hw) (by decide)
        · have hw := hw.2 (b2i_1 c_38)
          refine lv_iconst (v := 1) hx hb dL_law_239 (by decide) ?_
          refine lv_goto (tgt := 244) hx hb dL_law_240 (by decide) ?_
          subst hQM
          exact law_fin l hAn hret hS dL_law_244 (by omega) (by omega)
  have LOOP15 : ∀ (n15 : Nat), n15 ≤ 3 → ∀ (q1_11 : Nat → Int32) (o_12 : OS) (v3_13 : Int32) (ad_14 : Nat → Nat) (had_14 : ad_14 0 = t_o5) (H : Heap) (locs : List Loc), wl_L_law_15 n_4 (wx_L_law_15_99 Q) (wx_L_law_15_123 Q) (wx_L_law_15_174 Q) (wx_L_law_15_208 Q) (wx_L_law_15_216 Q n_4) n15 q1_11 o_12 v3_13 → va_P (dC, dI) vwCl ([(a_q_3, .inl (g 0, n_4, .inl q1_11))] ++ (offS ad_14 tp_o5 hd_o5 tf_o5 cf_o5 g o_12)) H → va_D A ([(a_q_3, .inl (g 0, n_4, .inl q1_11))] ++ (offS ad_14 tp_o5 hd_o5 tf_o5 cf_o5 g o_12)) → va_S A s.heap H locs → ∀ (ls : Array Slot), lv_has ls 7 [(1, .ref a_q_3), (2, .ref t_o5), (3, .int v3_13)] → W p l e room_1 s m ([.ref a_s_] : List Value).toArray below meth c H locs (656754 - n15 * 218871) (4004478 - n15 * 1331260) QM (F0 m 15 ls []) := by
    intro n15
    induction n15 with
    | zero =>
      intro hle_n15
      intro q1_11 o_12 v3_13 ad_14 had_14 H locs hw hP hD hS ls hl
      exact False.elim hw
    | succ n15 ih15 =>
      intro hle_n15
      have ih15 := ih15 (by omega)
      intro q1_11 o_12 v3_13 ad_14 had_14 H locs hw hP hD hS ls hl
      rw [wl_L_law_15_s] at hw
      obtain ⟨kb15, hkb15⟩ : ∃ x : Nat, x = 656754 - (n15 + 1) * 218871 := ⟨_, rfl⟩
      obtain ⟨nb15, hnb15⟩ : ∃ x : Nat, x = 4004478 - (n15 + 1) * 1331260 := ⟨_, rfl⟩
      refine W.widen (k := kb15) (n := nb15) (by omega) (by omega) ?_
      refine lv_iload_n hx hb dL_law_15 rfl (lv_at hl 2 rfl) ?_
      refine lv_iconst (v := 2) hx hb dL_law_16 (by decide) ?_
      refine lv_icmp_ge (tgt := 216) hx hb dL_law_17 (by decide) (fun c_39 => ?_) (fun c_39 => ?_)
      · have hw := hw.1 c_39
        refine W.widen (k := 437883) (n := 2673218) (by omega) (by omega) ?_
        exact EX15_216 q1_11 o_12 ad_14 had_14 _ _ hw hP hD hS _ (lv_sub hl [0, 1] rfl)
      · have hw := hw.2 c_39
        obtain ⟨hfu20, hw⟩ := hw
        refine lv_aload_n hx hb dL_law_20 rfl (lv_at hl 0 rfl) ?_
        refine lv_iconst (v := 3) hx hb dL_law_21 (by decide) ?_
        obtain ⟨hPs, hDs⟩ := seg_call (segs := [[(a_q_3, .inl (g 0, n_4, .inl q1_11))], offS ad_14 tp_o5 hd_o5 tf_o5 cf_o5 g o_12]) [offS ad_14 tp_o5 hd_o5 tf_o5 cf_o5 g o_12] [[(a_q_3, .inl (g 0, n_4, .inl q1_11))]] 2 [1, 0] rfl rfl (by decide) hP hD
        have hPc : va_P (dC, dI) vwCl [(a_q_3, .inl (g 0, n_4, .inl q1_11))] H := P_r hPs
        have hDc : va_D A [(a_q_3, .inl (g 0, n_4, .inl q1_11))] := D_r hDs
        have hFc : ∀ q, va_A [(a_q_3, .inl (g 0, n_4, .inl q1_11))] H.size q → A q := A_all hDc hA hS.1
        refine va_calli (va_runS (As := [.ref a_q_3, .int 3]) (rest := []) ⟨hx, hb, hml, hown, hts⟩ (c_L_draw l hlf dC dI g (a_r_ := a_q_3) (n_r_ := n_4) (r_ := q1_11) (many := 3) (hw := hw) (sz := H.size)) (va_cwS 2 hts (gqS aw_2_215 aw_2_216 aw_1_0 aw_2_217) rfl rfl rfl (by decide +kernel) ⟨Nat.le_of_ble_eq_true rfl, Nat.le_of_ble_eq_true rfl⟩) ⟨PG_blind, PG_call hK hG hS hPc hDc hFc⟩ rfl rfl hl.1 rfl (lv_room (Nat.le_of_ble_eq_true rfl)) dL_law_22 ⟨by rw [hrc]; omega, by rw [hrs]; omega⟩) hS (fun q _ h => hFc q h) hFc (fun r_40 u_40 t_40 H_40 L_40 ht_40 hvm_40 hw_40 hB_40 hz_40 hk_40 hS => ?_)
        obtain ⟨q1_41, u_40⟩ := u_40
        have hw := hw_40
        rw [ht_40] at hB_40
        obtain ⟨hP1, hD1⟩ := hB_40
        obtain ⟨hP, hD⟩ := join_r hPs hDs hk_40 hFc hP1 hD1
        obtain ⟨hP, hD⟩ := seg_join [offS ad_14 tp_o5 hd_o5 tf_o5 cf_o5 g o_12] [[(a_q_3, .inl (g 0, n_4, .inl q1_41))]] [[(a_q_3, .inl (g 0, n_4, .inl q1_41))], offS ad_14 tp_o5 hd_o5 tf_o5 cf_o5 g o_12] 2 [1, 0] rfl rfl (by decide) hP hD
        have hP : va_P (dC, dI) vwCl ([(a_q_3, .inl (g 0, n_4, .inl q1_41))] ++ (offS ad_14 tp_o5 hd_o5 tf_o5 cf_o5 g o_12)) H_40 := hP
        have hD : va_D A ([(a_q_3, .inl (g 0, n_4, .inl q1_41))] ++ (offS ad_14 tp_o5 hd_o5 tf_o5 cf_o5 g o_12)) := hD
        refine W.widen (k := (kb15 + 0)) (n := (nb15 + 0)) (by omega) (by omega) ?_
        refine lv_istore (lv' := [(4, .int r_40), (1, .ref a_q_3), (2, .ref t_o5), (3, .int v3_13)]) hx hb dL_law_25 hl (by decide) rfl (fun ls hl => ?_)
        refine lv_aload_n hx hb dL_law_27 rfl (lv_at hl 2 rfl) ?_
        refine lv_aload_n hx hb dL_law_28 rfl (lv_at hl 1 rfl) ?_
        refine lv_iload hx hb dL_law_29 (lv_at hl 0 rfl) ?_
        obtain ⟨hPs, hDs⟩ := seg_call (segs := [[(a_q_3, .inl (g 0, n_4, .inl q1_41))], offS ad_14 tp_o5 hd_o5 tf_o5 cf_o5 g o_12]) [] [[(a_q_3, .inl (g 0, n_4, .inl q1_41))], offS ad_14 tp_o5 hd_o5 tf_o5 cf_o5 g o_12] 2 [0, 1] rfl rfl (by decide) hP hD
        have hPc : va_P (dC, dI) vwCl ([(a_q_3, .inl (g 0, n_4, .inl q1_41))] ++ (offS ad_14 tp_o5 hd_o5 tf_o5 cf_o5 g o_12)) H_40 := P_r hPs
        have hDc : va_D A ([(a_q_3, .inl (g 0, n_4, .inl q1_41))] ++ (offS ad_14 tp_o5 hd_o5 tf_o5 cf_o5 g o_12)) := D_r hDs
        have hFc : ∀ q, va_A ([(a_q_3, .inl (g 0, n_4, .inl q1_41))] ++ (offS ad_14 tp_o5 hd_o5 tf_o5 cf_o5 g o_12)) H_40.size q → A q := A_all hDc hA hS.1
        refine va_callv (va_runS (As := [.ref t_o5, .ref a_q_3, .int r_40]) (rest := []) ⟨hx, hb, hml, hown, hts⟩ (c_L_draws l hlf dC dI g (tp_p_ := tp_o5) (hd_p_ := hd_o5) (tf_p_ := tf_o5) (cf_p_ := cf_o5) (htf_p_ := htf_o5) (hcf_p_ := hcf_o5) (a_p_ := ad_14) (t_p_ := t_o5) (h_p_ := had_14) (o_p_ := o_12) (a_r_ := a_q_3) (n_r_ := n_4) (r_ := q1_41) (tape := r_40) (hw := hw) (sz := H_40.size)) (va_cwS 3 hts (gqS aw_2_222 aw_2_223 aw_1_0 aw_2_224) rfl rfl rfl (by decide +kernel) ⟨Nat.le_of_ble_eq_true rfl, Nat.le_of_ble_eq_true rfl⟩) ⟨PG_blind, PG_call hK hG hS hPc hDc hFc⟩ rfl rfl hl.1 rfl (lv_room (Nat.le_of_ble_eq_true rfl)) dL_law_31 ⟨by rw [hrc]; omega, by rw [hrs]; omega⟩) hS (fun q _ h => hFc q h) hFc (fun u_42 t_42 H_42 L_42 ht_42 hvm_42 hw_42 hB_42 hz_42 hk_42 hS => ?_)
        obtain ⟨q1_43, ad_44, o_45, u_42⟩ := u_42
        obtain ⟨hw, had_44⟩ := hw_42
        rw [ht_42] at hB_42
        obtain ⟨hP1, hD1⟩ := hB_42
        obtain ⟨hP, hD⟩ := join_r hPs hDs hk_42 hFc hP1 hD1
        obtain ⟨hP, hD⟩ := seg_join [] [[(a_q_3, .inl (g 0, n_4, .inl q1_43))], offS ad_44 tp_o5 hd_o5 tf_o5 cf_o5 g o_45] [[(a_q_3, .inl (g 0, n_4, .inl q1_43))], offS ad_44 tp_o5 hd_o5 tf_o5 cf_o5 g o_45] 2 [0, 1] rfl rfl (by decide) hP hD
        have hP : va_P (dC, dI) vwCl ([(a_q_3, .inl (g 0, n_4, .inl q1_43))] ++ (offS ad_44 tp_o5 hd_o5 tf_o5 cf_o5 g o_45)) H_42 := hP
        have hD : va_D A ([(a_q_3, .inl (g 0, n_4, .inl q1_43))] ++ (offS ad_44 tp_o5 hd_o5 tf_o5 cf_o5 g o_45)) := hD
        refine W.widen (k := (kb15 + 412)) (n := (nb15 + 2472)) (by omega) (by omega) ?_
        refine lv_aload_n hx hb dL_law_34 rfl (lv_at hl 1 rfl) ?_
        refine lv_iconst (v := 2) hx hb dL_law_35 (by decide) ?_
        obtain ⟨hPs, hDs⟩ := seg_call (segs := [[(a_q_3, .inl (g 0, n_4, .inl q1_43))], offS ad_44 tp_o5 hd_o5 tf_o5 cf_o5 g o_45]) [offS ad_44 tp_o5 hd_o5 tf_o5 cf_o5 g o_45] [[(a_q_3, .inl (g 0, n_4, .inl q1_43))]] 2 [1, 0] rfl rfl (by decide) hP hD
        have hPc : va_P (dC, dI) vwCl [(a_q_3, .inl (g 0, n_4, .inl q1_43))] H_42 := P_r hPs
        have hDc : va_D A [(a_q_3, .inl (g 0, n_4, .inl q1_43))] := D_r hDs
        have hFc : ∀ q, va_A [(a_q_3, .inl (g 0, n_4, .inl q1_43))] H_42.size q → A q := A_all hDc hA hS.1
        refine va_calli (va_runS (As := [.ref a_q_3, .int 2]) (rest := []) ⟨hx, hb, hml, hown, hts⟩ (c_L_draw l hlf dC dI g (a_r_ := a_q_3) (n_r_ := n_4) (r_ := q1_43) (many := 2) (hw := hw) (sz := H_42.size)) (va_cwS 2 hts (gqS aw_2_215 aw_2_216 aw_1_0 aw_2_217) rfl rfl rfl (by decide +kernel) ⟨Nat.le_of_ble_eq_true rfl, Nat.le_of_ble_eq_true rfl⟩) ⟨PG_blind, PG_call hK hG hS hPc hDc hFc⟩ rfl rfl hl.1 rfl (lv_room (Nat.le_of_ble_eq_true rfl)) dL_law_36 ⟨by rw [hrc]; omega, by rw [hrs]; omega⟩) hS (fun q _ h => hFc q h) hFc (fun r_46 u_46 t_46 H_46 L_46 ht_46 hvm_46 hw_46 hB_46 hz_46 hk_46 hS => ?_)
        obtain ⟨q1_47, u_46⟩ := u_46
        have hw := hw_46
        rw [ht_46] at hB_46
        obtain ⟨hP1, hD1⟩ := hB_46
        obtain ⟨hP, hD⟩ := join_r hPs hDs hk_46 hFc hP1 hD1
        obtain ⟨hP, hD⟩ := seg_join [offS ad_44 tp_o5 hd_o5 tf_o5 cf_o5 g o_45] [[(a_q_3, .inl (g 0, n_4, .inl q1_47))]] [[(a_q_3, .inl (g 0, n_4, .inl q1_47))], offS ad_44 tp_o5 hd_o5 tf_o5 cf_o5 g o_45] 2 [1, 0] rfl rfl (by decide) hP hD
        have hP : va_P (dC, dI) vwCl ([(a_q_3, .inl (g 0, n_4, .inl q1_47))] ++ (offS ad_44 tp_o5 hd_o5 tf_o5 cf_o5 g o_45)) H_46 := hP
        have hD : va_D A ([(a_q_3, .inl (g 0, n_4, .inl q1_47))] ++ (offS ad_44 tp_o5 hd_o5 tf_o5 cf_o5 g o_45)) := hD
        refine W.widen (k := (kb15 + 412)) (n := (nb15 + 2472)) (by omega) (by omega) ?_
        refine lv_istore (lv' := [(5, .int r_46), (4, .int r_40), (1, .ref a_q_3), (2, .ref t_o5), (3, .int v3_13)]) hx hb dL_law_39 hl (by decide) rfl (fun ls hl => ?_)
        refine lv_aload_n hx hb dL_law_41 rfl (lv_at hl 2 rfl) ?_
        refine lv_iconst (v := 3) hx hb dL_law_42 (by decide) ?_
        obtain ⟨hPs, hDs⟩ := seg_call (segs := [[(a_q_3, .inl (g 0, n_4, .inl q1_47))], offS ad_44 tp_o5 hd_o5 tf_o5 cf_o5 g o_45]) [offS ad_44 tp_o5 hd_o5 tf_o5 cf_o5 g o_45] [[(a_q_3, .inl (g 0, n_4, .inl q1_47))]] 2 [1, 0] rfl rfl (by decide) hP hD
        have hPc : va_P (dC, dI) vwCl [(a_q_3, .inl (g 0, n_4, .inl q1_47))] H_46 := P_r hPs
        have hDc : va_D A [(a_q_3, .inl (g 0, n_4, .inl q1_47))] := D_r hDs
        have hFc : ∀ q, va_A [(a_q_3, .inl (g 0, n_4, .inl q1_47))] H_46.size q → A q := A_all hDc hA hS.1
        refine va_calli (va_runS (As := [.ref a_q_3, .int 3]) (rest := []) ⟨hx, hb, hml, hown, hts⟩ (c_L_draw l hlf dC dI g (a_r_ := a_q_3) (n_r_ := n_4) (r_ := q1_47) (many := 3) (hw := hw) (sz := H_46.size)) (va_cwS 2 hts (gqS aw_2_215 aw_2_216 aw_1_0 aw_2_217) rfl rfl rfl (by decide +kernel) ⟨Nat.le_of_ble_eq_true rfl, Nat.le_of_ble_eq_true rfl⟩) ⟨PG_blind, PG_call hK hG hS hPc hDc hFc⟩ rfl rfl hl.1 rfl (lv_room (Nat.le_of_ble_eq_true rfl)) dL_law_43 ⟨by rw [hrc]; omega, by rw [hrs]; omega⟩) hS (fun q _ h => hFc q h) hFc (fun r_48 u_48 t_48 H_48 L_48 ht_48 hvm_48 hw_48 hB_48 hz_48 hk_48 hS => ?_)
        obtain ⟨q1_49, u_48⟩ := u_48
        have hw := hw_48
        rw [ht_48] at hB_48
        obtain ⟨hP1, hD1⟩ := hB_48
        obtain ⟨hP, hD⟩ := join_r hPs hDs hk_48 hFc hP1 hD1
        obtain ⟨hP, hD⟩ := seg_join [offS ad_44 tp_o5 hd_o5 tf_o5 cf_o5 g o_45] [[(a_q_3, .inl (g 0, n_4, .inl q1_49))]] [[(a_q_3, .inl (g 0, n_4, .inl q1_49))], offS ad_44 tp_o5 hd_o5 tf_o5 cf_o5 g o_45] 2 [1, 0] rfl rfl (by decide) hP hD
        have hP : va_P (dC, dI) vwCl ([(a_q_3, .inl (g 0, n_4, .inl q1_49))] ++ (offS ad_44 tp_o5 hd_o5 tf_o5 cf_o5 g o_45)) H_48 := hP
        have hD : va_D A ([(a_q_3, .inl (g 0, n_4, .inl q1_49))] ++ (offS ad_44 tp_o5 hd_o5 tf_o5 cf_o5 g o_45)) := hD
        refine W.widen (k := (kb15 + 412)) (n := (nb15 + 2472)) (by omega) (by omega) ?_
        have JN68 : ∀ (sk0_50 : Int32) (q1_51 : Nat → Int32) (H : Heap) (locs : List Loc), (wj_L_law_68 n_4 v3_13 (wl_L_law_15 n_4 (wx_L_law_15_99 Q) (wx_L_law_15_123 Q) (wx_L_law_15_174 Q) (wx_L_law_15_208 Q) (wx_L_law_15_216 Q n_4) n15) (wx_L_law_15_99 Q) (wx_L_law_15_123 Q) (wx_L_law_15_174 Q) (wx_L_law_15_208 Q) r_40 o_45 r_46) sk0_50 q1_51 → va_P (dC, dI) vwCl ([(a_q_3, .inl (g 0, n_4, .inl q1_51))] ++ (offS ad_44 tp_o5 hd_o5 tf_o5 cf_o5 g o_45)) H → va_D A ([(a_q_3, .inl (g 0, n_4, .inl q1_51))] ++ (offS ad_44 tp_o5 hd_o5 tf_o5 cf_o5 g o_45)) → va_S A s.heap H locs → ∀ (ls : Array Slot), lv_has ls 7 [(1, .ref a_q_3), (2, .ref t_o5), (3, .int v3_13), (4, .int r_40), (5, .int r_46)] → W p l e room_1 s m ([.ref a_s_] : List Value).toArray below meth c H locs (kb15 + 412) (nb15 + 2472) QM (F0 m 68 ls [.int sk0_50]) := by
          intro sk0_50 q1_51 H locs hw hP hD hS ls hl
          refine lv_istore (lv' := [(6, .int sk0_50), (1, .ref a_q_3), (2, .ref t_o5), (3, .int v3_13), (4, .int r_40), (5, .int r_46)]) hx hb dL_law_68 hl (by decide) rfl (fun ls hl => ?_)
          refine lv_aload_n hx hb dL_law_70 rfl (lv_at hl 2 rfl) ?_
          refine lv_aload_n hx hb dL_law_71 rfl (lv_at hl 1 rfl) ?_
          refine lv_iload hx hb dL_law_72 (lv_at hl 4 rfl) ?_
          refine lv_iload hx hb dL_law_74 (lv_at hl 5 rfl) ?_
          refine lv_aload_n hx hb dL_law_76 rfl (lv_at hl 1 rfl) ?_
          refine lv_iconst (v := 3) hx hb dL_law_77 (by decide) ?_
          obtain ⟨hPs, hDs⟩ := seg_call (segs := [[(a_q_3, .inl (g 0, n_4, .inl q1_51))], offS ad_44 tp_o5 hd_o5 tf_o5 cf_o5 g o_45]) [offS ad_44 tp_o5 hd_o5 tf_o5 cf_o5 g o_45] [[(a_q_3, .inl (g 0, n_4, .inl q1_51))]] 2 [1, 0] rfl rfl (by decide) hP hD
          have hPc : va_P (dC, dI) vwCl [(a_q_3, .inl (g 0, n_4, .inl q1_51))] H := P_r hPs
          have hDc : va_D A [(a_q_3, .inl (g 0, n_4, .inl q1_51))] := D_r hDs
          have hFc : ∀ q, va_A [(a_q_3, .inl (g 0, n_4, .inl q1_51))] H.size q → A q := A_all hDc hA hS.1
          refine va_calli (va_runS (As := [.ref a_q_3, .int 3]) (rest := [.int r_46, .int r_40, .ref a_q_3, .ref t_o5]) ⟨hx, hb, hml, hown, hts⟩ (c_L_draw l hlf dC dI g (a_r_ := a_q_3) (n_r_ := n_4) (r_ := q1_51) (many := 3) (hw := hw) (sz := H.size)) (va_cwS 2 hts (gqS aw_2_215 aw_2_216 aw_1_0 aw_2_217) rfl rfl rfl (by decide +kernel) ⟨Nat.le_of_ble_eq_true rfl, Nat.le_of_ble_eq_true rfl⟩) ⟨PG_blind, PG_call hK hG hS hPc hDc hFc⟩ rfl rfl hl.1 rfl (lv_room (Nat.le_of_ble_eq_true rfl)) dL_law_78 ⟨by rw [hrc]; omega, by rw [hrs]; omega⟩) hS (fun q _ h => hFc q h) hFc (fun r_52 u_52 t_52 H_52 L_52 ht_52 hvm_52 hw_52 hB_52 hz_52 hk_52 hS => ?_)
          obtain ⟨q1_53, u_52⟩ := u_52
          have hw := hw_52
          rw [ht_52] at hB_52
          obtain ⟨hP1, hD1⟩ := hB_52
          obtain ⟨hP, hD⟩ := join_r hPs hDs hk_52 hFc hP1 hD1
          obtain ⟨hP, hD⟩ := seg_join [offS ad_44 tp_o5 hd_o5 tf_o5 cf_o5 g o_45] [[(a_q_3, .inl (g 0, n_4, .inl q1_53))]] [[(a_q_3, .inl (g 0, n_4, .inl q1_53))], offS ad_44 tp_o5 hd_o5 tf_o5 cf_o5 g o_45] 2 [1, 0] rfl rfl (by decide) hP hD
          have hP : va_P (dC, dI) vwCl ([(a_q_3, .inl (g 0, n_4, .inl q1_53))] ++ (offS ad_44 tp_o5 hd_o5 tf_o5 cf_o5 g o_45)) H_52 := hP
          have hD : va_D A ([(a_q_3, .inl (g 0, n_4, .inl q1_53))] ++ (offS ad_44 tp_o5 hd_o5 tf_o5 cf_o5 g o_45)) := hD
          refine W.widen (k := (kb15 + 412)) (n := (nb15 + 2472)) (by omega) (by omega) ?_
          refine lv_iload hx hb dL_law_81 (lv_at hl 0 rfl) ?_
          obtain ⟨hPs, hDs⟩ := seg_call (segs := [[(a_q_3, .inl (g 0, n_4, .inl q1_53))], offS ad_44 tp_o5 hd_o5 tf_o5 cf_o5 g o_45]) [] [[(a_q_3, .inl (g 0, n_4, .inl q1_53))], offS ad_44 tp_o5 hd_o5 tf_o5 cf_o5 g o_45] 2 [0, 1] rfl rfl (by decide) hP hD
          have hPc : va_P (dC, dI) vwCl ([(a_q_3, .inl (g 0, n_4, .inl q1_53))] ++ (offS ad_44 tp_o5 hd_o5 tf_o5 cf_o5 g o_45)) H_52 := P_r hPs
          have hDc : va_D A ([(a_q_3, .inl (g 0, n_4, .inl q1_53))] ++ (offS ad_44 tp_o5 hd_o5 tf_o5 cf_o5 g o_45)) := D_r hDs
          have hFc : ∀ q, va_A ([(a_q_3, .inl (g 0, n_4, .inl q1_53))] ++ (offS ad_44 tp_o5 hd_o5 tf_o5 cf_o5 g o_45)) H_52.size q → A q := A_all hDc hA hS.1
          refine va_calli (va_runS (As := [.ref t_o5, .ref a_q_3, .int r_40, .int r_46, .int r_52, .int sk0_50]) (rest := []) ⟨hx, hb, hml, hown, hts⟩ (c_L_areRuns l hlf dC dI g (tp_p_ := tp_o5) (hd_p_ := hd_o5) (tf_p_ := tf_o5) (cf_p_ := cf_o5) (htf_p_ := htf_o5) (hcf_p_ := hcf_o5) (a_p_ := ad_44) (t_p_ := t_o5) (h_p_ := had_44) (o_p_ := o_45) (a_r_ := a_q_3) (n_r_ := n_4) (r_ := q1_53) (tape := r_40) (order := r_46) (way := r_52) (memory := sk0_50) (hw := hw) (sz := H_52.size)) (va_cwS 6 hts (gqS aw_3_151 aw_3_152 aw_1_0 aw_3_153) rfl rfl rfl (by decide +kernel) ⟨Nat.le_of_ble_eq_true rfl, Nat.le_of_ble_eq_true rfl⟩) ⟨PG_blind, PG_call hK hG hS hPc hDc hFc⟩ rfl rfl hl.1 rfl (lv_room (Nat.le_of_ble_eq_true rfl)) dL_law_83 ⟨by rw [hrc]; omega, by rw [hrs]; omega⟩) hS (fun q _ h => hFc q h) hFc (fun r_54 u_54 t_54 H_54 L_54 ht_54 hvm_54 hw_54 hB_54 hz_54 hk_54 hS => ?_)
          obtain ⟨ad_55, o_56, u_54⟩ := u_54
          obtain ⟨b_54, rfl, ⟨hw, had_55⟩⟩ := hw_54
          rw [ht_54] at hB_54
          obtain ⟨hP1, hD1⟩ := hB_54
          obtain ⟨hP, hD⟩ := join_r hPs hDs hk_54 hFc hP1 hD1
          obtain ⟨hP, hD⟩ := seg_join [] [[(a_q_3, .inl (g 0, n_4, .inl q1_53))], offS ad_55 tp_o5 hd_o5 tf_o5 cf_o5 g o_56] [[(a_q_3, .inl (g 0, n_4, .inl q1_53))], offS ad_55 tp_o5 hd_o5 tf_o5 cf_o5 g o_56] 2 [0, 1] rfl rfl (by decide) hP hD
          have hP : va_P (dC, dI) vwCl ([(a_q_3, .inl (g 0, n_4, .inl q1_53))] ++ (offS ad_55 tp_o5 hd_o5 tf_o5 cf_o5 g o_56)) H_54 := hP
          have hD : va_D A ([(a_q_3, .inl (g 0, n_4, .inl q1_53))] ++ (offS ad_55 tp_o5 hd_o5 tf_o5 cf_o5 g o_56)) := hD
          refine W.widen (k := (kb15 + 16804)) (n := (nb15 + 101794)) (by omega) (by omega) ?_
          refine lv_if_eq (tgt := 99) hx hb dL_law_86 (by decide) (fun c_57 => ?_) (fun c_57 => ?_)
          · have hw := hw.1 (b2i_0 c_57)
            obtain ⟨hP, hD⟩ := seg_sub (segs := [[(a_q_3, .inl (g 0, n_4, .inl q1_53))], offS ad_55 tp_o5 hd_o5 tf_o5 cf_o5 g o_56]) [offS ad_55 tp_o5 hd_o5 tf_o5 cf_o5 g o_56] [[(a_q_3, .inl (g 0, n_4, .inl q1_53))]] 2 [1, 0] rfl rfl (by decide) hP hD
            refine W.widen (k := 455268) (n := 2790712) (by omega) (by omega) ?_
            exact EX15_99 o_56 ad_55 had_55 _ _ hw hP hD hS _ (lv_sub hl [] rfl)
          · have hw := hw.2 (b2i_1 c_57)
            refine lv_aload_n hx hb dL_law_89 rfl (lv_at hl 2 rfl) ?_
            refine lv_aload_n hx hb dL_law_90 rfl (lv_at hl 1 rfl) ?_
            refine lv_iload hx hb dL_law_91 (lv_at hl 4 rfl) ?_
            obtain ⟨hPs, hDs⟩ := seg_call (segs := [[(a_q_3, .inl (g 0, n_4, .inl q1_53))], offS ad_55 tp_o5 hd_o5 tf_o5 cf_o5 g o_56]) [] [[(a_q_3, .inl (g 0, n_4, .inl q1_53))], offS ad_55 tp_o5 hd_o5 tf_o5 cf_o5 g o_56] 2 [0, 1] rfl rfl (by decide) hP hD
            have hPc : va_P (dC, dI) vwCl ([(a_q_3, .inl (g 0, n_4, .inl q1_53))] ++ (offS ad_55 tp_o5 hd_o5 tf_o5 cf_o5 g o_56)) H_54 := P_r hPs
            have hDc : va_D A ([(a_q_3, .inl (g 0, n_4, .inl q1_53))] ++ (offS ad_55 tp_o5 hd_o5 tf_o5 cf_o5 g o_56)) := D_r hDs
            have hFc : ∀ q, va_A ([(a_q_3, .inl (g 0, n_4, .inl q1_53))] ++ (offS ad_55 tp_o5 hd_o5 tf_o5 cf_o5 g o_56)) H_54.size q → A q := A_all hDc hA hS.1
            refine va_calli (va_runS (As := [.ref t_o5, .ref a_q_3, .int r_40]) (rest := []) ⟨hx, hb, hml, hown, hts⟩ (c_L_isPlanned l hlf dC dI g (tp_p_ := tp_o5) (hd_p_ := hd_o5) (tf_p_ := tf_o5) (cf_p_ := cf_o5) (htf_p_ := htf_o5) (hcf_p_ := hcf_o5) (a_p_ := ad_55) (t_p_ := t_o5) (h_p_ := had_55) (o_p_ := o_56) (a_r_ := a_q_3) (n_r_ := n_4) (r_ := q1_53) (tape := r_40) (hw := hw) (sz := H_54.size)) (va_cwS 3 hts (gqS aw_5_232 aw_5_233 aw_1_0 aw_5_234) rfl rfl rfl (by decide +kernel) ⟨Nat.le_of_ble_eq_true rfl, Nat.le_of_ble_eq_true rfl⟩) ⟨PG_blind, PG_call hK hG hS hPc hDc hFc⟩ rfl rfl hl.1 rfl (lv_room (Nat.le_of_ble_eq_true rfl)) dL_law_93 ⟨by rw [hrc]; omega, by rw [hrs]; omega⟩) hS (fun q _ h => hFc q h) hFc (fun r_58 u_58 t_58 H_58 L_58 ht_58 hvm_58 hw_58 hB_58 hz_58 hk_58 hS => ?_)
            obtain ⟨q1_59, ad_60, o_61, u_58⟩ := u_58
            obtain ⟨b_58, rfl, ⟨hw, had_60⟩⟩ := hw_58
            rw [ht_58] at hB_58
            obtain ⟨hP1, hD1⟩ := hB_58
            obtain ⟨hP, hD⟩ := join_r hPs hDs hk_58 hFc hP1 hD1
            obtain ⟨hP, hD⟩ := seg_join [] [[(a_q_3, .inl (g 0, n_4, .inl q1_59))], offS ad_60 tp_o5 hd_o5 tf_o5 cf_o5 g o_61] [[(a_q_3, .inl (g 0, n_4, .inl q1_59))], offS ad_60 tp_o5 hd_o5 tf_o5 cf_o5 g o_61] 2 [0, 1] rfl rfl (by decide) hP hD
            have hP : va_P (dC, dI) vwCl ([(a_q_3, .inl (g 0, n_4, .inl q1_59))] ++ (offS ad_60 tp_o5 hd_o5 tf_o5 cf_o5 g o_61)) H_58 := hP
            have hD : va_D A ([(a_q_3, .inl (g 0, n_4, .inl q1_59))] ++ (offS ad_60 tp_o5 hd_o5 tf_o5 cf_o5 g o_61)) := hD
            refine W.widen (k := (kb15 + 17385)) (n := (nb15 + 117494)) (by omega) (by omega) ?_
            refine lv_if_ne (tgt := 101) hx hb dL_law_96 (by decide) (fun c_62 => ?_) (fun c_62 => ?_)
            · have hw := hw.2 (b2i_1 c_62)
              refine lv_aload_n hx hb dL_law_101 rfl (lv_at hl 2 rfl) ?_
              refine lv_aload_n hx hb dL_law_102 rfl (lv_at hl 1 rfl) ?_
              refine lv_iload hx hb dL_law_103 (lv_at hl 4 rfl) ?_
              refine lv_iload_n hx hb dL_law_105 rfl (lv_at hl 3 rfl) ?_
              have JN115 : ∀ (sk0_63 : Int32) (H : Heap) (locs : List Loc), (wj_L_law_115 n_4 v3_13 (wl_L_law_15 n_4 (wx_L_law_15_99 Q) (wx_L_law_15_123 Q) (wx_L_law_15_174 Q) (wx_L_law_15_208 Q) (wx_L_law_15_216 Q n_4) n15) (wx_L_law_15_123 Q) (wx_L_law_15_174 Q) (wx_L_law_15_208 Q) r_40 r_46 q1_59 o_61) sk0_63 → va_P (dC, dI) vwCl ([(a_q_3, .inl (g 0, n_4, .inl q1_59))] ++ (offS ad_60 tp_o5 hd_o5 tf_o5 cf_o5 g o_61)) H → va_D A ([(a_q_3, .inl (g 0, n_4, .inl q1_59))] ++ (offS ad_60 tp_o5 hd_o5 tf_o5 cf_o5 g o_61)) → va_S A s.heap H locs → ∀ (ls : Array Slot), lv_has ls 7 [(1, .ref a_q_3), (2, .ref t_o5), (3, .int v3_13), (5, .int r_46)] → W p l e room_1 s m ([.ref a_s_] : List Value).toArray below meth c H locs (kb15 + 17385) (nb15 + 117494) QM (F0 m 115 ls [.int sk0_63, .int r_40, .ref a_q_3, .ref t_o5]) := by
                intro sk0_63 H locs hw hP hD hS ls hl
                refine lv_iload hx hb dL_law_115 (lv_at hl 3 rfl) ?_
                obtain ⟨hPs, hDs⟩ := seg_call (segs := [[(a_q_3, .inl (g 0, n_4, .inl q1_59))], offS ad_60 tp_o5 hd_o5 tf_o5 cf_o5 g o_61]) [] [[(a_q_3, .inl (g 0, n_4, .inl q1_59))], offS ad_60 tp_o5 hd_o5 tf_o5 cf_o5 g o_61] 2 [0, 1] rfl rfl (by decide) hP hD
                have hPc : va_P (dC, dI) vwCl ([(a_q_3, .inl (g 0, n_4, .inl q1_59))] ++ (offS ad_60 tp_o5 hd_o5 tf_o5 cf_o5 g o_61)) H := P_r hPs
                have hDc : va_D A ([(a_q_3, .inl (g 0, n_4, .inl q1_59))] ++ (offS ad_60 tp_o5 hd_o5 tf_o5 cf_o5 g o_61)) := D_r hDs
                have hFc : ∀ q, va_A ([(a_q_3, .inl (g 0, n_4, .inl q1_59))] ++ (offS ad_60 tp_o5 hd_o5 tf_o5 cf_o5 g o_61)) H.size q → A q := A_all hDc hA hS.1
                refine va_calli (va_runS (As := [.ref t_o5, .ref a_q_3, .int r_40, .int sk0_63, .int r_46]) (rest := []) ⟨hx, hb, hml, hown, hts⟩ (c_L_isJob l hlf dC dI g (tp_p_ := tp_o5) (hd_p_ := hd_o5) (tf_p_ := tf_o5) (cf_p_ := cf_o5) (htf_p_ := htf_o5) (hcf_p_ := hcf_o5) (a_p_ := ad_60) (t_p_ := t_o5) (h_p_ := had_60) (o_p_ := o_61) (a_r_ := a_q_3) (n_r_ := n_4) (r_ := q1_59) (tape := r_40) (to_ := sk0_63) (order := r_46) (hw := hw) (sz := H.size)) (va_cwS 5 hts (gqS aw_6_21 aw_6_22 aw_1_0 aw_6_23) rfl rfl rfl (by decide +kernel) ⟨Nat.le_of_ble_eq_true rfl, Nat.le_of_ble_eq_true rfl⟩) ⟨PG_blind, PG_call hK hG hS hPc hDc hFc⟩ rfl rfl hl.1 rfl (lv_room (Nat.le_of_ble_eq_true rfl)) dL_law_117 ⟨by rw [hrc]; omega, by rw [hrs]; omega⟩) hS (fun q _ h => hFc q h) hFc (fun r_64 u_64 t_64 H_64 L_64 ht_64 hvm_64 hw_64 hB_64 hz_64 hk_64 hS => ?_)
                obtain ⟨q1_65, ad_66, o_67, u_64⟩ := u_64
                obtain ⟨b_64, rfl, ⟨hw, had_66⟩⟩ := hw_64
                rw [ht_64] at hB_64
                obtain ⟨hP1, hD1⟩ := hB_64
                obtain ⟨hP, hD⟩ := join_r hPs hDs hk_64 hFc hP1 hD1
                obtain ⟨hP, hD⟩ := seg_join [] [[(a_q_3, .inl (g 0, n_4, .inl q1_65))], offS ad_66 tp_o5 hd_o5 tf_o5 cf_o5 g o_67] [[(a_q_3, .inl (g 0, n_4, .inl q1_65))], offS ad_66 tp_o5 hd_o5 tf_o5 cf_o5 g o_67] 2 [0, 1] rfl rfl (by decide) hP hD
                have hP : va_P (dC, dI) vwCl ([(a_q_3, .inl (g 0, n_4, .inl q1_65))] ++ (offS ad_66 tp_o5 hd_o5 tf_o5 cf_o5 g o_67)) H_64 := hP
                have hD : va_D A ([(a_q_3, .inl (g 0, n_4, .inl q1_65))] ++ (offS ad_66 tp_o5 hd_o5 tf_o5 cf_o5 g o_67)) := hD
                refine W.widen (k := (kb15 + 28984)) (n := (nb15 + 187670)) (by omega) (by omega) ?_
                refine lv_if_ne (tgt := 125) hx hb dL_law_120 (by decide) (fun c_68 => ?_) (fun c_68 => ?_)
                · have hw := hw.2 (b2i_1 c_68)
                  refine lv_aload_n hx hb dL_law_125 rfl (lv_at hl 1 rfl) ?_
                  refine lv_aload_n hx hb dL_law_126 rfl (lv_at hl 0 rfl) ?_
                  refine lv_iconst (v := 4) hx hb dL_law_127 (by decide) ?_
                  obtain ⟨hPs, hDs⟩ := seg_call (segs := [[(a_q_3, .inl (g 0, n_4, .inl q1_65))], offS ad_66 tp_o5 hd_o5 tf_o5 cf_o5 g o_67]) [] [[(a_q_3, .inl (g 0, n_4, .inl q1_65))], offS ad_66 tp_o5 hd_o5 tf_o5 cf_o5 g o_67] 2 [0, 1] rfl rfl (by decide) hP hD
                  have hPc : va_P (dC, dI) vwCl ([(a_q_3, .inl (g 0, n_4, .inl q1_65))] ++ (offS ad_66 tp_o5 hd_o5 tf_o5 cf_o5 g o_67)) H_64 := P_r hPs
                  have hDc : va_D A ([(a_q_3, .inl (g 0, n_4, .inl q1_65))] ++ (offS ad_66 tp_o5 hd_o5 tf_o5 cf_o5 g o_67)) := D_r hDs
                  have hFc : ∀ q, va_A ([(a_q_3, .inl (g 0, n_4, .inl q1_65))] ++ (offS ad_66 tp_o5 hd_o5 tf_o5 cf_o5 g o_67)) H_64.size q → A q := A_all hDc hA hS.1
                  refine va_callv (va_runS (As := [.ref t_o5, .ref a_q_3, .int 4]) (rest := []) ⟨hx, hb, hml, hown, hts⟩ (c_L_draws l hlf dC dI g (tp_p_ := tp_o5) (hd_p_ := hd_o5) (tf_p_ := tf_o5) (cf_p_ := cf_o5) (htf_p_ := htf_o5) (hcf_p_ := hcf_o5) (a_p_ := ad_66) (t_p_ := t_o5) (h_p_ := had_66) (o_p_ := o_67) (a_r_ := a_q_3) (n_r_ := n_4) (r_ := q1_65) (tape := 4) (hw := hw) (sz := H_64.size)) (va_cwS 3 hts (gqS aw_2_222 aw_2_223 aw_1_0 aw_2_224) rfl rfl rfl (by decide +kernel) ⟨Nat.le_of_ble_eq_true rfl, Nat.le_of_ble_eq_true rfl⟩) ⟨PG_blind, PG_call hK hG hS hPc hDc hFc⟩ rfl rfl hl.1 rfl (lv_room (Nat.le_of_ble_eq_true rfl)) dL_law_128 ⟨by rw [hrc]; omega, by rw [hrs]; omega⟩) hS (fun q _ h => hFc q h) hFc (fun u_69 t_69 H_69 L_69 ht_69 hvm_69 hw_69 hB_69 hz_69 hk_69 hS => ?_)
                  obtain ⟨q1_70, ad_71, o_72, u_69⟩ := u_69
                  obtain ⟨hw, had_71⟩ := hw_69
                  rw [ht_69] at hB_69
                  obtain ⟨hP1, hD1⟩ := hB_69
                  obtain ⟨hP, hD⟩ := join_r hPs hDs hk_69 hFc hP1 hD1
                  obtain ⟨hP, hD⟩ := seg_join [] [[(a_q_3, .inl (g 0, n_4, .inl q1_70))], offS ad_71 tp_o5 hd_o5 tf_o5 cf_o5 g o_72] [[(a_q_3, .inl (g 0, n_4, .inl q1_70))], offS ad_71 tp_o5 hd_o5 tf_o5 cf_o5 g o_72] 2 [0, 1] rfl rfl (by decide) hP hD
                  have hP : va_P (dC, dI) vwCl ([(a_q_3, .inl (g 0, n_4, .inl q1_70))] ++ (offS ad_71 tp_o5 hd_o5 tf_o5 cf_o5 g o_72)) H_69 := hP
                  have hD : va_D A ([(a_q_3, .inl (g 0, n_4, .inl q1_70))] ++ (offS ad_71 tp_o5 hd_o5 tf_o5 cf_o5 g o_72)) := hD
                  refine W.widen (k := (kb15 + 29396)) (n := (nb15 + 190142)) (by omega) (by omega) ?_
                  refine lv_aload_n hx hb dL_law_131 rfl (lv_at hl 1 rfl) ?_
                  refine lv_aload_n hx hb dL_law_132 rfl (lv_at hl 0 rfl) ?_
                  refine lv_iconst (v := 4) hx hb dL_law_133 (by decide) ?_
                  refine lv_iconst (v := 5) hx hb dL_law_134 (by decide) ?_
                  refine lv_aload_n hx hb dL_law_135 rfl (lv_at hl 0 rfl) ?_
                  refine lv_iconst (v := 3) hx hb dL_law_136 (by decide) ?_
                  obtain ⟨hPs, hDs⟩ := seg_call (segs := [[(a_q_3, .inl (g 0, n_4, .inl q1_70))], offS ad_71 tp_o5 hd_o5 tf_o5 cf_o5 g o_72]) [offS ad_71 tp_o5 hd_o5 tf_o5 cf_o5 g o_72] [[(a_q_3, .inl (g 0, n_4, .inl q1_70))]] 2 [1, 0] rfl rfl (by decide) hP hD
                  have hPc : va_P (dC, dI) vwCl [(a_q_3, .inl (g 0, n_4, .inl q1_70))] H_69 := P_r hPs
                  have hDc : va_D A [(a_q_3, .inl (g 0, n_4, .inl q1_70))] := D_r hDs
                  have hFc : ∀ q, va_A [(a_q_3, .inl (g 0, n_4, .inl q1_70))] H_69.size q → A q := A_all hDc hA hS.1
                  refine va_calli (va_runS (As := [.ref a_q_3, .int 3]) (rest := [.int 5, .int 4, .ref a_q_3, .ref t_o5]) ⟨hx, hb, hml, hown, hts⟩ (c_L_draw l hlf dC dI g (a_r_ := a_q_3) (n_r_ := n_4) (r_ := q1_70) (many := 3) (hw := hw) (sz := H_69.size)) (va_cwS 2 hts (gqS aw_2_215 aw_2_216 aw_1_0 aw_2_217) rfl rfl rfl (by decide +kernel) ⟨Nat.le_of_ble_eq_true rfl, Nat.le_of_ble_eq_true rfl⟩) ⟨PG_blind, PG_call hK hG hS hPc hDc hFc⟩ rfl rfl hl.1 rfl (lv_room (Nat.le_of_ble_eq_true rfl)) dL_law_137 ⟨by rw [hrc]; omega, by rw [hrs]; omega⟩) hS (fun q _ h => hFc q h) hFc (fun r_73 u_73 t_73 H_73 L_73 ht_73 hvm_73 hw_73 hB_73 hz_73 hk_73 hS => ?_)
                  obtain ⟨q1_74, u_73⟩ := u_73
                  have hw := hw_73
                  rw [ht_73] at hB_73
                  obtain ⟨hP1, hD1⟩ := hB_73
                  obtain ⟨hP, hD⟩ := join_r hPs hDs hk_73 hFc hP1 hD1
                  obtain ⟨hP, hD⟩ := seg_join [offS ad_71 tp_o5 hd_o5 tf_o5 cf_o5 g o_72] [[(a_q_3, .inl (g 0, n_4, .inl q1_74))]] [[(a_q_3, .inl (g 0, n_4, .inl q1_74))], offS ad_71 tp_o5 hd_o5 tf_o5 cf_o5 g o_72] 2 [1, 0] rfl rfl (by decide) hP hD
                  have hP : va_P (dC, dI) vwCl ([(a_q_3, .inl (g 0, n_4, .inl q1_74))] ++ (offS ad_71 tp_o5 hd_o5 tf_o5 cf_o5 g o_72)) H_73 := hP
                  have hD : va_D A ([(a_q_3, .inl (g 0, n_4, .inl q1_74))] ++ (offS ad_71 tp_o5 hd_o5 tf_o5 cf_o5 g o_72)) := hD
                  refine W.widen (k := (kb15 + 29396)) (n := (nb15 + 190142)) (by omega) (by omega) ?_
                  have JN148 : ∀ (sk0_75 : Bool) (H : Heap) (locs : List Loc), (wj_L_law_148 n_4 v3_13 (wl_L_law_15 n_4 (wx_L_law_15_99 Q) (wx_L_law_15_123 Q) (wx_L_law_15_174 Q) (wx_L_law_15_208 Q) (wx_L_law_15_216 Q n_4) n15) (wx_L_law_15_174 Q) (wx_L_law_15_208 Q) o_72 q1_74) sk0_75 → va_P (dC, dI) vwCl ([(a_q_3, .inl (g 0, n_4, .inl q1_74))] ++ (offS ad_71 tp_o5 hd_o5 tf_o5 cf_o5 g o_72)) H → va_D A ([(a_q_3, .inl (g 0, n_4, .inl q1_74))] ++ (offS ad_71 tp_o5 hd_o5 tf_o5 cf_o5 g o_72)) → va_S A s.heap H locs → ∀ (ls : Array Slot), lv_has ls 7 [(1, .ref a_q_3), (2, .ref t_o5), (3, .int v3_13)] → W p l e room_1 s m ([.ref a_s_] : List Value).toArray below meth c H locs (kb15 + 29396) (nb15 + 190142) QM (F0 m 148 ls [.int (b2i sk0_75), .int 5, .int 4, .ref a_q_3, .ref t_o5]) := by
                    intro sk0_75 H locs hw hP hD hS ls hl
                    obtain ⟨hPs, hDs⟩ := seg_call (segs := [[(a_q_3, .inl (g 0, n_4, .inl q1_74))], offS ad_71 tp_o5 hd_o5 tf_o5 cf_o5 g o_72]) [] [[(a_q_3, .inl (g 0, n_4, .inl q1_74))], offS ad_71 tp_o5 hd_o5 tf_o5 cf_o5 g o_72] 2 [0, 1] rfl rfl (by decide) hP hD
                    have hPc : va_P (dC, dI) vwCl ([(a_q_3, .inl (g 0, n_4, .inl q1_74))] ++ (offS ad_71 tp_o5 hd_o5 tf_o5 cf_o5 g o_72)) H := P_r hPs
                    have hDc : va_D A ([(a_q_3, .inl (g 0, n_4, .inl q1_74))] ++ (offS ad_71 tp_o5 hd_o5 tf_o5 cf_o5 g o_72)) := D_r hDs
                    have hFc : ∀ q, va_A ([(a_q_3, .inl (g 0, n_4, .inl q1_74))] ++ (offS ad_71 tp_o5 hd_o5 tf_o5 cf_o5 g o_72)) H.size q → A q := A_all hDc hA hS.1
                    refine va_calli (va_runS (As := [.ref t_o5, .ref a_q_3, .int 4, .int 5, .int (b2i sk0_75)]) (rest := []) ⟨hx, hb, hml, hown, hts⟩ (c_L_isSort l hlf dC dI g (tp_p_ := tp_o5) (hd_p_ := hd_o5) (tf_p_ := tf_o5) (cf_p_ := cf_o5) (htf_p_ := htf_o5) (hcf_p_ := hcf_o5) (a_p_ := ad_71) (t_p_ := t_o5) (h_p_ := had_71) (o_p_ := o_72) (a_r_ := a_q_3) (n_r_ := n_4) (r_ := q1_74) (tape := 4) (to_ := 5) (order := (b2i sk0_75)) (hw := hw) (sz := H.size)) (va_cwS 5 hts (gqS aw_6_24 aw_6_25 aw_1_0 aw_6_26) rfl rfl rfl (by decide +kernel) ⟨Nat.le_of_ble_eq_true rfl, Nat.le_of_ble_eq_true rfl⟩) ⟨PG_blind, PG_call hK hG hS hPc hDc hFc⟩ rfl rfl hl.1 rfl (lv_room (Nat.le_of_ble_eq_true rfl)) dL_law_148 ⟨by rw [hrc]; omega, by rw [hrs]; omega⟩) hS (fun q _ h => hFc q h) hFc (fun r_76 u_76 t_76 H_76 L_76 ht_76 hvm_76 hw_76 hB_76 hz_76 hk_76 hS => ?_)
                    obtain ⟨q1_77, ad_78, o_79, u_76⟩ := u_76
                    obtain ⟨b_76, rfl, ⟨hw, had_78⟩⟩ := hw_76
                    rw [ht_76] at hB_76
                    obtain ⟨hP1, hD1⟩ := hB_76
                    obtain ⟨hP, hD⟩ := join_r hPs hDs hk_76 hFc hP1 hD1
                    obtain ⟨hP, hD⟩ := seg_join [] [[(a_q_3, .inl (g 0, n_4, .inl q1_77))], offS ad_78 tp_o5 hd_o5 tf_o5 cf_o5 g o_79] [[(a_q_3, .inl (g 0, n_4, .inl q1_77))], offS ad_78 tp_o5 hd_o5 tf_o5 cf_o5 g o_79] 2 [0, 1] rfl rfl (by decide) hP hD
                    have hP : va_P (dC, dI) vwCl ([(a_q_3, .inl (g 0, n_4, .inl q1_77))] ++ (offS ad_78 tp_o5 hd_o5 tf_o5 cf_o5 g o_79)) H_76 := hP
                    have hD : va_D A ([(a_q_3, .inl (g 0, n_4, .inl q1_77))] ++ (offS ad_78 tp_o5 hd_o5 tf_o5 cf_o5 g o_79)) := hD
                    refine W.widen (k := (kb15 + 33349)) (n := (nb15 + 214442)) (by omega) (by omega) ?_
                    refine lv_if_eq (tgt := 174) hx hb dL_law_151 (by decide) (fun c_80 => ?_) (fun c_80 => ?_)
                    · have hw := hw.1 (b2i_0 c_80)
                      obtain ⟨hP, hD⟩ := seg_sub (segs := [[(a_q_3, .inl (g 0, n_4, .inl q1_77))], offS ad_78 tp_o5 hd_o5 tf_o5 cf_o5 g o_79]) [offS ad_78 tp_o5 hd_o5 tf_o5 cf_o5 g o_79] [[(a_q_3, .inl (g 0, n_4, .inl q1_77))]] 2 [1, 0] rfl rfl (by decide) hP hD
                      refine W.widen (k := 655504) (n := 3996396) (by omega) (by omega) ?_
                      exact EX15_174 o_79 ad_78 had_78 _ _ hw hP hD hS _ (lv_sub hl [] rfl)
                    · have hw := hw.2 (b2i_1 c_80)
                      refine lv_aload_n hx hb dL_law_154 rfl (lv_at hl 1 rfl) ?_
                      refine lv_aload_n hx hb dL_law_155 rfl (lv_at hl 0 rfl) ?_
                      refine lv_iconst (v := 3) hx hb dL_law_156 (by decide) ?_
                      refine lv_iconst (v := 5) hx hb dL_law_157 (by decide) ?_
                      obtain ⟨hPs, hDs⟩ := seg_call (segs := [[(a_q_3, .inl (g 0, n_4, .inl q1_77))], offS ad_78 tp_o5 hd_o5 tf_o5 cf_o5 g o_79]) [] [[(a_q_3, .inl (g 0, n_4, .inl q1_77))], offS ad_78 tp_o5 hd_o5 tf_o5 cf_o5 g o_79] 2 [0, 1] rfl rfl (by decide) hP hD
                      have hPc : va_P (dC, dI) vwCl ([(a_q_3, .inl (g 0, n_4, .inl q1_77))] ++ (offS ad_78 tp_o5 hd_o5 tf_o5 cf_o5 g o_79)) H_76 := P_r hPs
                      have hDc : va_D A ([(a_q_3, .inl (g 0, n_4, .inl q1_77))] ++ (offS ad_78 tp_o5 hd_o5 tf_o5 cf_o5 g o_79)) := D_r hDs
                      have hFc : ∀ q, va_A ([(a_q_3, .inl (g 0, n_4, .inl q1_77))] ++ (offS ad_78 tp_o5 hd_o5 tf_o5 cf_o5 g o_79)) H_76.size q → A q := A_all hDc hA hS.1
                      refine va_calli (va_runS (As := [.ref t_o5, .ref a_q_3, .int 3, .int 5]) (rest := []) ⟨hx, hb, hml, hown, hts⟩ (c_L_isCombined l hlf dC dI g (tp_p_ := tp_o5) (hd_p_ := hd_o5) (tf_p_ := tf_o5) (cf_p_ := cf_o5) (htf_p_ := htf_o5) (hcf_p_ := hcf_o5) (a_p_ := ad_78) (t_p_ := t_o5) (h_p_ := had_78) (o_p_ := o_79) (a_r_ := a_q_3) (n_r_ := n_4) (r_ := q1_77) (a_ := 3) (b_ := 5) (hw := hw) (sz := H_76.size)) (va_cwS 4 hts (gqS aw_6_77 aw_6_78 aw_1_0 aw_6_79) rfl rfl rfl (by decide +kernel) ⟨Nat.le_of_ble_eq_true rfl, Nat.le_of_ble_eq_true rfl⟩) ⟨PG_blind, PG_call hK hG hS hPc hDc hFc⟩ rfl rfl hl.1 rfl (lv_room (Nat.le_of_ble_eq_true rfl)) dL_law_158 ⟨by rw [hrc]; omega, by rw [hrs]; omega⟩) hS (fun q _ h => hFc q h) hFc (fun r_81 u_81 t_81 H_81 L_81 ht_81 hvm_81 hw_81 hB_81 hz_81 hk_81 hS => ?_)
                      obtain ⟨q1_82, ad_83, o_84, u_81⟩ := u_81
                      obtain ⟨b_81, rfl, ⟨hw, had_83⟩⟩ := hw_81
                      rw [ht_81] at hB_81
                      obtain ⟨hP1, hD1⟩ := hB_81
                      obtain ⟨hP, hD⟩ := join_r hPs hDs hk_81 hFc hP1 hD1
                      obtain ⟨hP, hD⟩ := seg_join [] [[(a_q_3, .inl (g 0, n_4, .inl q1_82))], offS ad_83 tp_o5 hd_o5 tf_o5 cf_o5 g o_84] [[(a_q_3, .inl (g 0, n_4, .inl q1_82))], offS ad_83 tp_o5 hd_o5 tf_o5 cf_o5 g o_84] 2 [0, 1] rfl rfl (by decide) hP hD
                      have hP : va_P (dC, dI) vwCl ([(a_q_3, .inl (g 0, n_4, .inl q1_82))] ++ (offS ad_83 tp_o5 hd_o5 tf_o5 cf_o5 g o_84)) H_81 := hP
                      have hD : va_D A ([(a_q_3, .inl (g 0, n_4, .inl q1_82))] ++ (offS ad_83 tp_o5 hd_o5 tf_o5 cf_o5 g o_84)) := hD
                      refine W.widen (k := (kb15 + 125485)) (n := (nb15 + 768810)) (by omega) (by omega) ?_
                      refine lv_if_eq (tgt := 174) hx hb dL_law_161 (by decide) (fun c_85 => ?_) (fun c_85 => ?_)
                      · have hw := hw.1 (b2i_0 c_85)
                        obtain ⟨hP, hD⟩ := seg_sub (segs := [[(a_q_3, .inl (g 0, n_4, .inl q1_82))], offS ad_83 tp_o5 hd_o5 tf_o5 cf_o5 g o_84]) [offS ad_83 tp_o5 hd_o5 tf_o5 cf_o5 g o_84] [[(a_q_3, .inl (g 0, n_4, .inl q1_82))]] 2 [1, 0] rfl rfl (by decide) hP hD
                        refine W.widen (k := 655504) (n := 3996396) (by omega) (by omega) ?_
                        exact EX15_174 o_84 ad_83 had_83 _ _ hw hP hD hS _ (lv_sub hl [] rfl)
                      · have hw := hw.2 (b2i_1 c_85)
                        refine lv_aload_n hx hb dL_law_164 rfl (lv_at hl 1 rfl) ?_
                        refine lv_aload_n hx hb dL_law_165 rfl (lv_at hl 0 rfl) ?_
                        refine lv_iconst (v := 5) hx hb dL_law_166 (by decide) ?_
                        refine lv_iconst (v := 5) hx hb dL_law_167 (by decide) ?_
                        obtain ⟨hPs, hDs⟩ := seg_call (segs := [[(a_q_3, .inl (g 0, n_4, .inl q1_82))], offS ad_83 tp_o5 hd_o5 tf_o5 cf_o5 g o_84]) [] [[(a_q_3, .inl (g 0, n_4, .inl q1_82))], offS ad_83 tp_o5 hd_o5 tf_o5 cf_o5 g o_84] 2 [0, 1] rfl rfl (by decide) hP hD
                        have hPc : va_P (dC, dI) vwCl ([(a_q_3, .inl (g 0, n_4, .inl q1_82))] ++ (offS ad_83 tp_o5 hd_o5 tf_o5 cf_o5 g o_84)) H_81 := P_r hPs
                        have hDc : va_D A ([(a_q_3, .inl (g 0, n_4, .inl q1_82))] ++ (offS ad_83 tp_o5 hd_o5 tf_o5 cf_o5 g o_84)) := D_r hDs
                        have hFc : ∀ q, va_A ([(a_q_3, .inl (g 0, n_4, .inl q1_82))] ++ (offS ad_83 tp_o5 hd_o5 tf_o5 cf_o5 g o_84)) H_81.size q → A q := A_all hDc hA hS.1
                        refine va_calli (va_runS (As := [.ref t_o5, .ref a_q_3, .int 5, .int 5]) (rest := []) ⟨hx, hb, hml, hown, hts⟩ (c_L_isCombined l hlf dC dI g (tp_p_ := tp_o5) (hd_p_ := hd_o5) (tf_p_ := tf_o5) (cf_p_ := cf_o5) (htf_p_ := htf_o5) (hcf_p_ := hcf_o5) (a_p_ := ad_83) (t_p_ := t_o5) (h_p_ := had_83) (o_p_ := o_84) (a_r_ := a_q_3) (n_r_ := n_4) (r_ := q1_82) (a_ := 5) (b_ := 5) (hw := hw) (sz := H_81.size)) (va_cwS 4 hts (gqS aw_6_77 aw_6_78 aw_1_0 aw_6_79) rfl rfl rfl (by decide +kernel) ⟨Nat.le_of_ble_eq_true rfl, Nat.le_of_ble_eq_true rfl⟩) ⟨PG_blind, PG_call hK hG hS hPc hDc hFc⟩ rfl rfl hl.1 rfl (lv_room (Nat.le_of_ble_eq_true rfl)) dL_law_168 ⟨by rw [hrc]; omega, by rw [hrs]; omega⟩) hS (fun q _ h => hFc q h) hFc (fun r_86 u_86 t_86 H_86 L_86 ht_86 hvm_86 hw_86 hB_86 hz_86 hk_86 hS => ?_)
                        obtain ⟨q1_87, ad_88, o_89, u_86⟩ := u_86
                        obtain ⟨b_86, rfl, ⟨hw, had_88⟩⟩ := hw_86
                        rw [ht_86] at hB_86
                        obtain ⟨hP1, hD1⟩ := hB_86
                        obtain ⟨hP, hD⟩ := join_r hPs hDs hk_86 hFc hP1 hD1
                        obtain ⟨hP, hD⟩ := seg_join [] [[(a_q_3, .inl (g 0, n_4, .inl q1_87))], offS ad_88 tp_o5 hd_o5 tf_o5 cf_o5 g o_89] [[(a_q_3, .inl (g 0, n_4, .inl q1_87))], offS ad_88 tp_o5 hd_o5 tf_o5 cf_o5 g o_89] 2 [0, 1] rfl rfl (by decide) hP hD
                        have hP : va_P (dC, dI) vwCl ([(a_q_3, .inl (g 0, n_4, .inl q1_87))] ++ (offS ad_88 tp_o5 hd_o5 tf_o5 cf_o5 g o_89)) H_86 := hP
                        have hD : va_D A ([(a_q_3, .inl (g 0, n_4, .inl q1_87))] ++ (offS ad_88 tp_o5 hd_o5 tf_o5 cf_o5 g o_89)) := hD
                        refine W.widen (k := (kb15 + 217621)) (n := (nb15 + 1323178)) (by omega) (by omega) ?_
                        refine lv_if_ne (tgt := 176) hx hb dL_law_171 (by decide) (fun c_90 => ?_) (fun c_90 => ?_)
                        · have hw := hw.2 (b2i_1 c_90)
                          refine lv_aload_n hx hb dL_law_176 rfl (lv_at hl 1 rfl) ?_
                          refine lv_aload_n hx hb dL_law_177 rfl (lv_at hl 0 rfl) ?_
                          refine lv_iconst (v := 5) hx hb dL_law_178 (by decide) ?_
                          obtain ⟨hPs, hDs⟩ := seg_call (segs := [[(a_q_3, .inl (g 0, n_4, .inl q1_87))], offS ad_88 tp_o5 hd_o5 tf_o5 cf_o5 g o_89]) [] [[(a_q_3, .inl (g 0, n_4, .inl q1_87))], offS ad_88 tp_o5 hd_o5 tf_o5 cf_o5 g o_89] 2 [0, 1] rfl rfl (by decide) hP hD
                          have hPc : va_P (dC, dI) vwCl ([(a_q_3, .inl (g 0, n_4, .inl q1_87))] ++ (offS ad_88 tp_o5 hd_o5 tf_o5 cf_o5 g o_89)) H_86 := P_r hPs
                          have hDc : va_D A ([(a_q_3, .inl (g 0, n_4, .inl q1_87))] ++ (offS ad_88 tp_o5 hd_o5 tf_o5 cf_o5 g o_89)) := D_r hDs
                          have hFc : ∀ q, va_A ([(a_q_3, .inl (g 0, n_4, .inl q1_87))] ++ (offS ad_88 tp_o5 hd_o5 tf_o5 cf_o5 g o_89)) H_86.size q → A q := A_all hDc hA hS.1
                          refine va_calli (va_runS (As := [.ref t_o5, .ref a_q_3, .int 5]) (rest := []) ⟨hx, hb, hml, hown, hts⟩ (c_L_isLookedUp l hlf dC dI g (tp_p_ := tp_o5) (hd_p_ := hd_o5) (tf_p_ := tf_o5) (cf_p_ := cf_o5) (htf_p_ := htf_o5) (hcf_p_ := hcf_o5) (a_p_ := ad_88) (t_p_ := t_o5) (h_p_ := had_88) (o_p_ := o_89) (a_r_ := a_q_3) (n_r_ := n_4) (r_ := q1_87) (tape := 5) (hw := hw) (sz := H_86.size)) (va_cwS 3 hts (gqS aw_6_86 aw_6_87 aw_1_0 aw_6_88) rfl rfl rfl (by decide +kernel) ⟨Nat.le_of_ble_eq_true rfl, Nat.le_of_ble_eq_true rfl⟩) ⟨PG_blind, PG_call hK hG hS hPc hDc hFc⟩ rfl rfl hl.1 rfl (lv_room (Nat.le_of_ble_eq_true rfl)) dL_law_179 ⟨by rw [hrc]; omega, by rw [hrs]; omega⟩) hS (fun q _ h => hFc q h) hFc (fun r_91 u_91 t_91 H_91 L_91 ht_91 hvm_91 hw_91 hB_91 hz_91 hk_91 hS => ?_)
                          obtain ⟨q1_92, ad_93, o_94, u_91⟩ := u_91
                          obtain ⟨b_91, rfl, ⟨hw, had_93⟩⟩ := hw_91
                          rw [ht_91] at hB_91
                          obtain ⟨hP1, hD1⟩ := hB_91
                          obtain ⟨hP, hD⟩ := join_r hPs hDs hk_91 hFc hP1 hD1
                          obtain ⟨hP, hD⟩ := seg_join [] [[(a_q_3, .inl (g 0, n_4, .inl q1_92))], offS ad_93 tp_o5 hd_o5 tf_o5 cf_o5 g o_94] [[(a_q_3, .inl (g 0, n_4, .inl q1_92))], offS ad_93 tp_o5 hd_o5 tf_o5 cf_o5 g o_94] 2 [0, 1] rfl rfl (by decide) hP hD
                          have hP : va_P (dC, dI) vwCl ([(a_q_3, .inl (g 0, n_4, .inl q1_92))] ++ (offS ad_93 tp_o5 hd_o5 tf_o5 cf_o5 g o_94)) H_91 := hP
                          have hD : va_D A ([(a_q_3, .inl (g 0, n_4, .inl q1_92))] ++ (offS ad_93 tp_o5 hd_o5 tf_o5 cf_o5 g o_94)) := hD
                          refine W.widen (k := (kb15 + 218041)) (n := (nb15 + 1325892)) (by omega) (by omega) ?_
                          refine lv_if_eq (tgt := 208) hx hb dL_law_182 (by decide) (fun c_95 => ?_) (fun c_95 => ?_)
                          · have hw := hw.1 (b2i_0 c_95)
                            obtain ⟨hP, hD⟩ := seg_sub (segs := [[(a_q_3, .inl (g 0, n_4, .inl q1_92))], offS ad_93 tp_o5 hd_o5 tf_o5 cf_o5 g o_94]) [offS ad_93 tp_o5 hd_o5 tf_o5 cf_o5 g o_94] [[(a_q_3, .inl (g 0, n_4, .inl q1_92))]] 2 [1, 0] rfl rfl (by decide) hP hD
                            refine W.widen (k := 656754) (n := 4004478) (by omega) (by omega) ?_
                            exact EX15_208 o_94 ad_93 had_93 _ _ hw hP hD hS _ (lv_sub hl [] rfl)
                          · have hw := hw.2 (b2i_1 c_95)
                            refine lv_aload_n hx hb dL_law_185 rfl (lv_at hl 1 rfl) ?_
                            refine lv_aload_n hx hb dL_law_186 rfl (lv_at hl 0 rfl) ?_
                            refine lv_iconst (v := 3) hx hb dL_law_187 (by decide) ?_
                            obtain ⟨hPs, hDs⟩ := seg_call (segs := [[(a_q_3, .inl (g 0, n_4, .inl q1_92))], offS ad_93 tp_o5 hd_o5 tf_o5 cf_o5 g o_94]) [] [[(a_q_3, .inl (g 0, n_4, .inl q1_92))], offS ad_93 tp_o5 hd_o5 tf_o5 cf_o5 g o_94] 2 [0, 1] rfl rfl (by decide) hP hD
                            have hPc : va_P (dC, dI) vwCl ([(a_q_3, .inl (g 0, n_4, .inl q1_92))] ++ (offS ad_93 tp_o5 hd_o5 tf_o5 cf_o5 g o_94)) H_91 := P_r hPs
                            have hDc : va_D A ([(a_q_3, .inl (g 0, n_4, .inl q1_92))] ++ (offS ad_93 tp_o5 hd_o5 tf_o5 cf_o5 g o_94)) := D_r hDs
                            have hFc : ∀ q, va_A ([(a_q_3, .inl (g 0, n_4, .inl q1_92))] ++ (offS ad_93 tp_o5 hd_o5 tf_o5 cf_o5 g o_94)) H_91.size q → A q := A_all hDc hA hS.1
                            refine va_calli (va_runS (As := [.ref t_o5, .ref a_q_3, .int 3]) (rest := []) ⟨hx, hb, hml, hown, hts⟩ (c_L_isLookedUp l hlf dC dI g (tp_p_ := tp_o5) (hd_p_ := hd_o5) (tf_p_ := tf_o5) (cf_p_ := cf_o5) (htf_p_ := htf_o5) (hcf_p_ := hcf_o5) (a_p_ := ad_93) (t_p_ := t_o5) (h_p_ := had_93) (o_p_ := o_94) (a_r_ := a_q_3) (n_r_ := n_4) (r_ := q1_92) (tape := 3) (hw := hw) (sz := H_91.size)) (va_cwS 3 hts (gqS aw_6_86 aw_6_87 aw_1_0 aw_6_88) rfl rfl rfl (by decide +kernel) ⟨Nat.le_of_ble_eq_true rfl, Nat.le_of_ble_eq_true rfl⟩) ⟨PG_blind, PG_call hK hG hS hPc hDc hFc⟩ rfl rfl hl.1 rfl (lv_room (Nat.le_of_ble_eq_true rfl)) dL_law_188 ⟨by rw [hrc]; omega, by rw [hrs]; omega⟩) hS (fun q _ h => hFc q h) hFc (fun r_96 u_96 t_96 H_96 L_96 ht_96 hvm_96 hw_96 hB_96 hz_96 hk_96 hS => ?_)
                            obtain ⟨q1_97, ad_98, o_99, u_96⟩ := u_96
                            obtain ⟨b_96, rfl, ⟨hw, had_98⟩⟩ := hw_96
                            rw [ht_96] at hB_96
                            obtain ⟨hP1, hD1⟩ := hB_96
                            obtain ⟨hP, hD⟩ := join_r hPs hDs hk_96 hFc hP1 hD1
                            obtain ⟨hP, hD⟩ := seg_join [] [[(a_q_3, .inl (g 0, n_4, .inl q1_97))], offS ad_98 tp_o5 hd_o5 tf_o5 cf_o5 g o_99] [[(a_q_3, .inl (g 0, n_4, .inl q1_97))], offS ad_98 tp_o5 hd_o5 tf_o5 cf_o5 g o_99] 2 [0, 1] rfl rfl (by decide) hP hD
                            have hP : va_P (dC, dI) vwCl ([(a_q_3, .inl (g 0, n_4, .inl q1_97))] ++ (offS ad_98 tp_o5 hd_o5 tf_o5 cf_o5 g o_99)) H_96 := hP
                            have hD : va_D A ([(a_q_3, .inl (g 0, n_4, .inl q1_97))] ++ (offS ad_98 tp_o5 hd_o5 tf_o5 cf_o5 g o_99)) := hD
                            refine W.widen (k := (kb15 + 218461)) (n := (nb15 + 1328606)) (by omega) (by omega) ?_
                            refine lv_if_eq (tgt := 208) hx hb dL_law_191 (by decide) (fun c_100 => ?_) (fun c_100 => ?_)
                            · have hw := hw.1 (b2i_0 c_100)
                              obtain ⟨hP, hD⟩ := seg_sub (segs := [[(a_q_3, .inl (g 0, n_4, .inl q1_97))], offS ad_98 tp_o5 hd_o5 tf_o5 cf_o5 g o_99]) [offS ad_98 tp_o5 hd_o5 tf_o5 cf_o5 g o_99] [[(a_q_3, .inl (g 0, n_4, .inl q1_97))]] 2 [1, 0] rfl rfl (by decide) hP hD
                              refine W.widen (k := 656754) (n := 4004478) (by omega) (by omega) ?_
                              exact EX15_208 o_99 ad_98 had_98 _ _ hw hP hD hS _ (lv_sub hl [] rfl)
                            · have hw := hw.2 (b2i_1 c_100)
                              refine lv_aload_n hx hb dL_law_194 rfl (lv_at hl 1 rfl) ?_
                              refine lv_aload_n hx hb dL_law_195 rfl (lv_at hl 0 rfl) ?_
                              refine lv_aload_n hx hb dL_law_196 rfl (lv_at hl 0 rfl) ?_
                              refine lv_bipush (v := 6) hx hb dL_law_197 (by decide) ?_
                              obtain ⟨hPs, hDs⟩ := seg_call (segs := [[(a_q_3, .inl (g 0, n_4, .inl q1_97))], offS ad_98 tp_o5 hd_o5 tf_o5 cf_o5 g o_99]) [offS ad_98 tp_o5 hd_o5 tf_o5 cf_o5 g o_99] [[(a_q_3, .inl (g 0, n_4, .inl q1_97))]] 2 [1, 0] rfl rfl (by decide) hP hD
                              have hPc : va_P (dC, dI) vwCl [(a_q_3, .inl (g 0, n_4, .inl q1_97))] H_96 := P_r hPs
                              have hDc : va_D A [(a_q_3, .inl (g 0, n_4, .inl q1_97))] := D_r hDs
                              have hFc : ∀ q, va_A [(a_q_3, .inl (g 0, n_4, .inl q1_97))] H_96.size q → A q := A_all hDc hA hS.1
                              refine va_calli (va_runS (As := [.ref a_q_3, .int 6]) (rest := [.ref a_q_3, .ref t_o5]) ⟨hx, hb, hml, hown, hts⟩ (c_L_draw l hlf dC dI g (a_r_ := a_q_3) (n_r_ := n_4) (r_ := q1_97) (many := 6) (hw := hw) (sz := H_96.size)) (va_cwS 2 hts (gqS aw_2_215 aw_2_216 aw_1_0 aw_2_217) rfl rfl rfl (by decide +kernel) ⟨Nat.le_of_ble_eq_true rfl, Nat.le_of_ble_eq_true rfl⟩) ⟨PG_blind, PG_call hK hG hS hPc hDc hFc⟩ rfl rfl hl.1 rfl (lv_room (Nat.le_of_ble_eq_true rfl)) dL_law_199 ⟨by rw [hrc]; omega, by rw [hrs]; omega⟩) hS (fun q _ h => hFc q h) hFc (fun r_101 u_101 t_101 H_101 L_101 ht_101 hvm_101 hw_101 hB_101 hz_101 hk_101 hS => ?_)
                              obtain ⟨q1_102, u_101⟩ := u_101
                              have hw := hw_101
                              rw [ht_101] at hB_101
                              obtain ⟨hP1, hD1⟩ := hB_101
                              obtain ⟨hP, hD⟩ := join_r hPs hDs hk_101 hFc hP1 hD1
                              obtain ⟨hP, hD⟩ := seg_join [offS ad_98 tp_o5 hd_o5 tf_o5 cf_o5 g o_99] [[(a_q_3, .inl (g 0, n_4, .inl q1_102))]] [[(a_q_3, .inl (g 0, n_4, .inl q1_102))], offS ad_98 tp_o5 hd_o5 tf_o5 cf_o5 g o_99] 2 [1, 0] rfl rfl (by decide) hP hD
                              have hP : va_P (dC, dI) vwCl ([(a_q_3, .inl (g 0, n_4, .inl q1_102))] ++ (offS ad_98 tp_o5 hd_o5 tf_o5 cf_o5 g o_99)) H_101 := hP
                              have hD : va_D A ([(a_q_3, .inl (g 0, n_4, .inl q1_102))] ++ (offS ad_98 tp_o5 hd_o5 tf_o5 cf_o5 g o_99)) := hD
                              refine W.widen (k := (kb15 + 218461)) (n := (nb15 + 1328606)) (by omega) (by omega) ?_
                              obtain ⟨hPs, hDs⟩ := seg_call (segs := [[(a_q_3, .inl (g 0, n_4, .inl q1_102))], offS ad_98 tp_o5 hd_o5 tf_o5 cf_o5 g o_99]) [] [[(a_q_3, .inl (g 0, n_4, .inl q1_102))], offS ad_98 tp_o5 hd_o5 tf_o5 cf_o5 g o_99] 2 [0, 1] rfl rfl (by decide) hP hD
                              have hPc : va_P (dC, dI) vwCl ([(a_q_3, .inl (g 0, n_4, .inl q1_102))] ++ (offS ad_98 tp_o5 hd_o5 tf_o5 cf_o5 g o_99)) H_101 := P_r hPs
                              have hDc : va_D A ([(a_q_3, .inl (g 0, n_4, .inl q1_102))] ++ (offS ad_98 tp_o5 hd_o5 tf_o5 cf_o5 g o_99)) := D_r hDs
                              have hFc : ∀ q, va_A ([(a_q_3, .inl (g 0, n_4, .inl q1_102))] ++ (offS ad_98 tp_o5 hd_o5 tf_o5 cf_o5 g o_99)) H_101.size q → A q := A_all hDc hA hS.1
                              refine va_calli (va_runS (As := [.ref t_o5, .ref a_q_3, .int r_101]) (rest := []) ⟨hx, hb, hml, hown, hts⟩ (c_L_isThinned l hlf dC dI g (tp_p_ := tp_o5) (hd_p_ := hd_o5) (tf_p_ := tf_o5) (cf_p_ := cf_o5) (htf_p_ := htf_o5) (hcf_p_ := hcf_o5) (a_p_ := ad_98) (t_p_ := t_o5) (h_p_ := had_98) (o_p_ := o_99) (a_r_ := a_q_3) (n_r_ := n_4) (r_ := q1_102) (tape := r_101) (hw := hw) (sz := H_101.size)) (va_cwS 3 hts (gqS aw_6_93 aw_6_94 aw_1_0 aw_6_95) rfl rfl rfl (by decide +kernel) ⟨Nat.le_of_ble_eq_true rfl, Nat.le_of_ble_eq_true rfl⟩) ⟨PG_blind, PG_call hK hG hS hPc hDc hFc⟩ rfl rfl hl.1 rfl (lv_room (Nat.le_of_ble_eq_true rfl)) dL_law_202 ⟨by rw [hrc]; omega, by rw [hrs]; omega⟩) hS (fun q _ h => hFc q h) hFc (fun r_103 u_103 t_103 H_103 L_103 ht_103 hvm_103 hw_103 hB_103 hz_103 hk_103 hS => ?_)
                              obtain ⟨q1_104, ad_105, o_106, u_103⟩ := u_103
                              obtain ⟨b_103, rfl, ⟨hw, had_105⟩⟩ := hw_103
                              rw [ht_103] at hB_103
                              obtain ⟨hP1, hD1⟩ := hB_103
                              obtain ⟨hP, hD⟩ := join_r hPs hDs hk_103 hFc hP1 hD1
                              obtain ⟨hP, hD⟩ := seg_join [] [[(a_q_3, .inl (g 0, n_4, .inl q1_104))], offS ad_105 tp_o5 hd_o5 tf_o5 cf_o5 g o_106] [[(a_q_3, .inl (g 0, n_4, .inl q1_104))], offS ad_105 tp_o5 hd_o5 tf_o5 cf_o5 g o_106] 2 [0, 1] rfl rfl (by decide) hP hD
                              have hP : va_P (dC, dI) vwCl ([(a_q_3, .inl (g 0, n_4, .inl q1_104))] ++ (offS ad_105 tp_o5 hd_o5 tf_o5 cf_o5 g o_106)) H_103 := hP
                              have hD : va_D A ([(a_q_3, .inl (g 0, n_4, .inl q1_104))] ++ (offS ad_105 tp_o5 hd_o5 tf_o5 cf_o5 g o_106)) := hD
                              refine W.widen (k := (kb15 + 218871)) (n := (nb15 + 1331260)) (by omega) (by omega) ?_
                              refine lv_if_ne (tgt := 210) hx hb dL_law_205 (by decide) (fun c_107 => ?_) (fun c_107 => ?_)
                              · have hw := hw.2 (b2i_1 c_107)
                                obtain ⟨x_108, ex_108⟩ : ∃ y : Int32, y = v3_13 + 1 := ⟨_, rfl⟩
                                have hw := hw x_108 ex_108
                                refine lv_iinc (v := x_108) (lv' := [(3, .int x_108), (1, .ref a_q_3), (2, .ref t_o5)]) hx hb dL_law_210 hl (k := 2) rfl (by rw [ex_108]; rfl) (by decide) rfl (fun ls hl => ?_)
                                refine lv_goto (tgt := 15) hx hb dL_law_213 (by decide) ?_
                                refine W.widen (k := (656754 - n15 * 218871)) (n := (4004478 - n15 * 1331260)) (by omega) (by omega) ?_
                                exact ih15 q1_104 o_106 x_108 ad_105 had_105 _ _ hw hP hD hS _ (lv_sub hl [1, 2, 0] rfl)
                              · have hw := hw.1 (b2i_0 c_107)
                                obtain ⟨hP, hD⟩ := seg_sub (segs := [[(a_q_3, .inl (g 0, n_4, .inl q1_104))], offS ad_105 tp_o5 hd_o5 tf_o5 cf_o5 g o_106]) [offS ad_105 tp_o5 hd_o5 tf_o5 cf_o5 g o_106] [[(a_q_3, .inl (g 0, n_4, .inl q1_104))]] 2 [1, 0] rfl rfl (by decide) hP hD
                                refine W.widen (k := 656754) (n := 4004478) (by omega) (by omega) ?_
                                exact EX15_208 o_106 ad_105 had_105 _ _ hw hP hD hS _ (lv_sub hl [] rfl)
                        · have hw := hw.1 (b2i_0 c_90)
                          obtain ⟨hP, hD⟩ := seg_sub (segs := [[(a_q_3, .inl (g 0, n_4, .inl q1_87))], offS ad_88 tp_o5 hd_o5 tf_o5 cf_o5 g o_89]) [offS ad_88 tp_o5 hd_o5 tf_o5 cf_o5 g o_89] [[(a_q_3, .inl (g 0, n_4, .inl q1_87))]] 2 [1, 0] rfl rfl (by decide) hP hD
                          refine W.widen (k := 655504) (n := 3996396) (by omega) (by omega) ?_
                          exact EX15_174 o_89 ad_88 had_88 _ _ hw hP hD hS _ (lv_sub hl [] rfl)
                  refine lv_if_ne (tgt := 147) hx hb dL_law_140 (by decide) (fun c_109 => ?_) (fun c_109 => ?_)
                  · have hw := hw.2 c_109
                    refine lv_iconst (v := 0) hx hb dL_law_147 (by decide) ?_
                    refine W.widen (k := (kb15 + 29396)) (n := (nb15 + 190142)) (by omega) (by omega) ?_
                    exact JN148 false _ _ hw hP hD hS _ (lv_sub hl [0, 1, 2] rfl)
                  · have hw := hw.1 c_109
                    refine lv_iconst (v := 1) hx hb dL_law_143 (by decide) ?_
                    refine lv_goto (tgt := 148) hx hb dL_law_144 (by decide) ?_
                    refine W.widen (k := (kb15 + 29396)) (n := (nb15 + 190142)) (by omega) (by omega) ?_
                    exact JN148 true _ _ hw hP hD hS _ (lv_sub hl [0, 1, 2] rfl)
                · have hw := hw.1 (b2i_0 c_68)
                  obtain ⟨hP, hD⟩ := seg_sub (segs := [[(a_q_3, .inl (g 0, n_4, .inl q1_65))], offS ad_66 tp_o5 hd_o5 tf_o5 cf_o5 g o_67]) [offS ad_66 tp_o5 hd_o5 tf_o5 cf_o5 g o_67] [[(a_q_3, .inl (g 0, n_4, .inl q1_65))]] 2 [1, 0] rfl rfl (by decide) hP hD
                  refine W.widen (k := 466867) (n := 2860888) (by omega) (by omega) ?_
                  exact EX15_123 o_67 ad_66 had_66 _ _ hw hP hD hS _ (lv_sub hl [] rfl)
              refine lv_if_ne (tgt := 113) hx hb dL_law_106 (by decide) (fun c_110 => ?_) (fun c_110 => ?_)
              · have hw := hw.2 c_110
                refine lv_iload hx hb dL_law_113 (lv_at hl 4 rfl) ?_
                refine W.widen (k := (kb15 + 17385)) (n := (nb15 + 117494)) (by omega) (by omega) ?_
                exact JN115 r_40 _ _ hw hP hD hS _ (lv_sub hl [1, 2, 3, 5] rfl)
              · have hw := hw.1 c_110
                refine lv_iconst (v := 3) hx hb dL_law_109 (by decide) ?_
                refine lv_goto (tgt := 115) hx hb dL_law_110 (by decide) ?_
                refine W.widen (k := (kb15 + 17385)) (n := (nb15 + 117494)) (by omega) (by omega) ?_
                exact JN115 3 _ _ hw hP hD hS _ (lv_sub hl [1, 2, 3, 5] rfl)
            · have hw := hw.1 (b2i_0 c_62)
              obtain ⟨hP, hD⟩ := seg_sub (segs := [[(a_q_3, .inl (g 0, n_4, .inl q1_59))], offS ad_60 tp_o5 hd_o5 tf_o5 cf_o5 g o_61]) [offS ad_60 tp_o5 hd_o5 tf_o5 cf_o5 g o_61] [[(a_q_3, .inl (g 0, n_4, .inl q1_59))]] 2 [1, 0] rfl rfl (by decide) hP hD
              refine W.widen (k := 455268) (n := 2790712) (by omega) (by omega) ?_
              exact EX15_99 o_61 ad_60 had_60 _ _ hw hP hD hS _ (lv_sub hl [] rfl)
        refine lv_if_ne (tgt := 60) hx hb dL_law_46 (by decide) (fun c_111 => ?_) (fun c_111 => ?_)
        · have hw := hw.2 c_111
          refine lv_iconst (v := 1) hx hb dL_law_60 (by decide) ?_
          refine lv_aload_n hx hb dL_law_61 rfl (lv_at hl 2 rfl) ?_
          refine lv_bipush (v := 6) hx hb dL_law_62 (by decide) ?_
          obtain ⟨hPs, hDs⟩ := seg_call (segs := [[(a_q_3, .inl (g 0, n_4, .inl q1_49))], offS ad_44 tp_o5 hd_o5 tf_o5 cf_o5 g o_45]) [offS ad_44 tp_o5 hd_o5 tf_o5 cf_o5 g o_45] [[(a_q_3, .inl (g 0, n_4, .inl q1_49))]] 2 [1, 0] rfl rfl (by decide) hP hD
          have hPc : va_P (dC, dI) vwCl [(a_q_3, .inl (g 0, n_4, .inl q1_49))] H_48 := P_r hPs
          have hDc : va_D A [(a_q_3, .inl (g 0, n_4, .inl q1_49))] := D_r hDs
          have hFc : ∀ q, va_A [(a_q_3, .inl (g 0, n_4, .inl q1_49))] H_48.size q → A q := A_all hDc hA hS.1
          refine va_calli (va_runS (As := [.ref a_q_3, .int 6]) (rest := [.int 1]) ⟨hx, hb, hml, hown, hts⟩ (c_L_draw l hlf dC dI g (a_r_ := a_q_3) (n_r_ := n_4) (r_ := q1_49) (many := 6) (hw := hw) (sz := H_48.size)) (va_cwS 2 hts (gqS aw_2_215 aw_2_216 aw_1_0 aw_2_217) rfl rfl rfl (by decide +kernel) ⟨Nat.le_of_ble_eq_true rfl, Nat.le_of_ble_eq_true rfl⟩) ⟨PG_blind, PG_call hK hG hS hPc hDc hFc⟩ rfl rfl hl.1 rfl (lv_room (Nat.le_of_ble_eq_true rfl)) dL_law_64 ⟨by rw [hrc]; omega, by rw [hrs]; omega⟩) hS (fun q _ h => hFc q h) hFc (fun r_112 u_112 t_112 H_112 L_112 ht_112 hvm_112 hw_112 hB_112 hz_112 hk_112 hS => ?_)
          obtain ⟨q1_113, u_112⟩ := u_112
          have hw := hw_112
          rw [ht_112] at hB_112
          obtain ⟨hP1, hD1⟩ := hB_112
          obtain ⟨hP, hD⟩ := join_r hPs hDs hk_112 hFc hP1 hD1
          obtain ⟨hP, hD⟩ := seg_join [offS ad_44 tp_o5 hd_o5 tf_o5 cf_o5 g o_45] [[(a_q_3, .inl (g 0, n_4, .inl q1_113))]] [[(a_q_3, .inl (g 0, n_4, .inl q1_113))], offS ad_44 tp_o5 hd_o5 tf_o5 cf_o5 g o_45] 2 [1, 0] rfl rfl (by decide) hP hD
          have hP : va_P (dC, dI) vwCl ([(a_q_3, .inl (g 0, n_4, .inl q1_113))] ++ (offS ad_44 tp_o5 hd_o5 tf_o5 cf_o5 g o_45)) H_112 := hP
          have hD : va_D A ([(a_q_3, .inl (g 0, n_4, .inl q1_113))] ++ (offS ad_44 tp_o5 hd_o5 tf_o5 cf_o5 g o_45)) := hD
          refine W.widen (k := (kb15 + 412)) (n := (nb15 + 2472)) (by omega) (by omega) ?_
          refine lv_iadd hx hb dL_law_67 ?_
          refine lv_topi (fun x_114 ex_114 => ?_)
          have hw := hw x_114 ex_114
          refine W.widen (k := (kb15 + 412)) (n := (nb15 + 2472)) (by omega) (by omega) ?_
          exact JN68 x_114 q1_113 _ _ hw hP hD hS _ (lv_sub hl [2, 3, 4, 1, 0] rfl)
        · have hw := hw.1 c_111
          refine lv_iconst (v := 1) hx hb dL_law_49 (by decide) ?_
          refine lv_aload_n hx hb dL_law_50 rfl (lv_at hl 2 rfl) ?_
          refine lv_bipush (v := 50) hx hb dL_law_51 (by decide) ?_
          obtain ⟨hPs, hDs⟩ := seg_call (segs := [[(a_q_3, .inl (g 0, n_4, .inl q1_49))], offS ad_44 tp_o5 hd_o5 tf_o5 cf_o5 g o_45]) [offS ad_44 tp_o5 hd_o5 tf_o5 cf_o5 g o_45] [[(a_q_3, .inl (g 0, n_4, .inl q1_49))]] 2 [1, 0] rfl rfl (by decide) hP hD
          have hPc : va_P (dC, dI) vwCl [(a_q_3, .inl (g 0, n_4, .inl q1_49))] H_48 := P_r hPs
          have hDc : va_D A [(a_q_3, .inl (g 0, n_4, .inl q1_49))] := D_r hDs
          have hFc : ∀ q, va_A [(a_q_3, .inl (g 0, n_4, .inl q1_49))] H_48.size q → A q := A_all hDc hA hS.1
          refine va_calli (va_runS (As := [.ref a_q_3, .int 50]) (rest := [.int 1]) ⟨hx, hb, hml, hown, hts⟩ (c_L_draw l hlf dC dI g (a_r_ := a_q_3) (n_r_ := n_4) (r_ := q1_49) (many := 50) (hw := hw) (sz := H_48.size)) (va_cwS 2 hts (gqS aw_2_215 aw_2_216 aw_1_0 aw_2_217) rfl rfl rfl (by decide +kernel) ⟨Nat.le_of_ble_eq_true rfl, Nat.le_of_ble_eq_true rfl⟩) ⟨PG_blind, PG_call hK hG hS hPc hDc hFc⟩ rfl rfl hl.1 rfl (lv_room (Nat.le_of_ble_eq_true rfl)) dL_law_53 ⟨by rw [hrc]; omega, by rw [hrs]; omega⟩) hS (fun q _ h => hFc q h) hFc (fun r_115 u_115 t_115 H_115 L_115 ht_115 hvm_115 hw_115 hB_115 hz_115 hk_115 hS => ?_)
          obtain ⟨q1_116, u_115⟩ := u_115
          have hw := hw_115
          rw [ht_115] at hB_115
          obtain ⟨hP1, hD1⟩ := hB_115
          obtain ⟨hP, hD⟩ := join_r hPs hDs hk_115 hFc hP1 hD1
          obtain ⟨hP, hD⟩ := seg_join [offS ad_44 tp_o5 hd_o5 tf_o5 cf_o5 g o_45] [[(a_q_3, .inl (g 0, n_4, .inl q1_116))]] [[(a_q_3, .inl (g 0, n_4, .inl q1_116))], offS ad_44 tp_o5 hd_o5 tf_o5 cf_o5 g o_45] 2 [1, 0] rfl rfl (by decide) hP hD
          have hP : va_P (dC, dI) vwCl ([(a_q_3, .inl (g 0, n_4, .inl q1_116))] ++ (offS ad_44 tp_o5 hd_o5 tf_o5 cf_o5 g o_45)) H_115 := hP
          have hD : va_D A ([(a_q_3, .inl (g 0, n_4, .inl q1_116))] ++ (offS ad_44 tp_o5 hd_o5 tf_o5 cf_o5 g o_45)) := hD
          refine W.widen (k := (kb15 + 412)) (n := (nb15 + 2472)) (by omega) (by omega) ?_
          refine lv_iadd hx hb dL_law_56 ?_
          refine lv_topi (fun x_117 ex_117 => ?_)
          have hw := hw x_117 ex_117
          refine lv_goto (tgt := 68) hx hb dL_law_57 (by decide) ?_
          refine W.widen (k := (kb15 + 412)) (n := (nb15 + 2472)) (by omega) (by omega) ?_
          exact JN68 x_117 q1_116 _ _ hw hP hD hS _ (lv_sub hl [2, 3, 4, 1, 0] rfl)
  obtain ⟨n15, hle15, hw⟩ := hw
  refine W.widen (k := (656754 - n15 * 218871)) (n := (4004478 - n15 * 1331260)) (by omega) (by omega) ?_
  exact LOOP15 n15 hle15 f_5 of_0 0 ad_10 had_10 _ _ hw hP hD hS _ (lv_sub hl [2, 1, 0] rfl)
